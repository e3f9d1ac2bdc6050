/-! declarations and decodings of methods (by program) -/
def M_CM_feed : pM := (⟨"CornerMaps", "feed", "(IIIII)I"⟩, prog_1_method_2_code, 6, some .int)
theorem co_CM_feed : CalOK M_CM_feed 5 := ⟨g_at 324 (by decide +kernel) rfl, g_at 1 (by decide +kernel) rfl, by decide +kernel, by decide +kernel, by decide +kernel⟩
theorem pn_CM_feed : plainName M_CM_feed.1.cls = true := by decide +kernel
def M_Tape_hasRoomFor : pM := (⟨"CornerMaps$Tape", "hasRoomFor", "(I)Z"⟩, prog_10_method_2_code, 2, some .boolean)
theorem co_Tape_hasRoomFor : CalOK M_Tape_hasRoomFor 1 := ⟨g_at 328 (by decide +kernel) rfl, g_at 4 (by decide +kernel) rfl, by decide +kernel, by decide +kernel, by decide +kernel⟩
theorem pn_Tape_hasRoomFor : plainName M_Tape_hasRoomFor.1.cls = true := by decide +kernel
def M_Tape_put : pM := (⟨"CornerMaps$Tape", "put", "(I)V"⟩, prog_10_method_3_code, 3, none)
theorem co_Tape_put : CalOK M_Tape_put 1 := ⟨g_at 332 (by decide +kernel) rfl, g_at 4 (by decide +kernel) rfl, by decide +kernel, by decide +kernel, by decide +kernel⟩
theorem pn_Tape_put : plainName M_Tape_put.1.cls = true := by decide +kernel
def M_CM_text : pM := (⟨"CornerMaps", "text", "(I)I"⟩, prog_1_method_3_code, 4, some .int)
theorem co_CM_text : CalOK M_CM_text 1 := ⟨g_at 336 (by decide +kernel) rfl, g_at 1 (by decide +kernel) rfl, by decide +kernel, by decide +kernel, by decide +kernel⟩
theorem pn_CM_text : plainName M_CM_text.1.cls = true := by decide +kernel
def M_Reader_read : pM := (⟨"CornerMaps$Reader", "read", "(ILCornerMaps$Plane;)Z"⟩, prog_8_method_2_code, 5, some .boolean)
theorem co_Reader_read : CalOK M_Reader_read 2 := ⟨g_at 340 (by decide +kernel) rfl, g_at 6 (by decide +kernel) rfl, by decide +kernel, by decide +kernel, by decide +kernel⟩
theorem pn_Reader_read : plainName M_Reader_read.1.cls = true := by decide +kernel
def M_Past_forget : pM := (⟨"CornerMaps$Past", "forget", "()V"⟩, prog_5_method_2_code, 1, none)
theorem co_Past_forget : CalOK M_Past_forget 0 := ⟨g_at 495 (by decide +kernel) rfl, g_at 7 (by decide +kernel) rfl, by decide +kernel, by decide +kernel, by decide +kernel⟩
theorem pn_Past_forget : plainName M_Past_forget.1.cls = true := by decide +kernel
def M_Plane_clear : pM := (⟨"CornerMaps$Plane", "clear", "()V"⟩, prog_6_method_2_code, 1, none)
theorem co_Plane_clear : CalOK M_Plane_clear 0 := ⟨g_at 344 (by decide +kernel) rfl, g_at 2 (by decide +kernel) rfl, by decide +kernel, by decide +kernel, by decide +kernel⟩
theorem pn_Plane_clear : plainName M_Plane_clear.1.cls = true := by decide +kernel
def M_Reader_next : pM := (⟨"CornerMaps$Reader", "next", "()V"⟩, prog_8_method_14_code, 1, none)
theorem co_Reader_next : CalOK M_Reader_next 0 := ⟨g_at 351 (by decide +kernel) rfl, g_at 6 (by decide +kernel) rfl, by decide +kernel, by decide +kernel, by decide +kernel⟩
theorem pn_Reader_next : plainName M_Reader_next.1.cls = true := by decide +kernel
def M_Reader_isWord : pM := (⟨"CornerMaps$Reader", "isWord", "(I)Z"⟩, prog_8_method_12_code, 2, some .boolean)
theorem co_Reader_isWord : CalOK M_Reader_isWord 1 := ⟨g_at 378 (by decide +kernel) rfl, g_at 6 (by decide +kernel) rfl, by decide +kernel, by decide +kernel, by decide +kernel⟩
theorem pn_Reader_isWord : plainName M_Reader_isWord.1.cls = true := by decide +kernel
def M_Reader_readQuad : pM := (⟨"CornerMaps$Reader", "readQuad", "()Z"⟩, prog_8_method_3_code, 4, some .boolean)
theorem co_Reader_readQuad : CalOK M_Reader_readQuad 0 := ⟨g_at 382 (by decide +kernel) rfl, g_at 6 (by decide +kernel) rfl, by decide +kernel, by decide +kernel, by decide +kernel⟩
theorem pn_Reader_readQuad : plainName M_Reader_readQuad.1.cls = true := by decide +kernel
def M_Reader_readMap : pM := (⟨"CornerMaps$Reader", "readMap", "()Z"⟩, prog_8_method_4_code, 3, some .boolean)
theorem co_Reader_readMap : CalOK M_Reader_readMap 0 := ⟨g_at 425 (by decide +kernel) rfl, g_at 6 (by decide +kernel) rfl, by decide +kernel, by decide +kernel, by decide +kernel⟩
theorem pn_Reader_readMap : plainName M_Reader_readMap.1.cls = true := by decide +kernel
def M_Reader_readPoint : pM := (⟨"CornerMaps$Reader", "readPoint", "()Z"⟩, prog_8_method_5_code, 1, some .boolean)
theorem co_Reader_readPoint : CalOK M_Reader_readPoint 0 := ⟨g_at 485 (by decide +kernel) rfl, g_at 6 (by decide +kernel) rfl, by decide +kernel, by decide +kernel, by decide +kernel⟩
theorem pn_Reader_readPoint : plainName M_Reader_readPoint.1.cls = true := by decide +kernel
def M_Reader_refuse : pM := (⟨"CornerMaps$Reader", "refuse", "(I)Z"⟩, prog_8_method_10_code, 2, some .boolean)
theorem co_Reader_refuse : CalOK M_Reader_refuse 1 := ⟨g_at 386 (by decide +kernel) rfl, g_at 6 (by decide +kernel) rfl, by decide +kernel, by decide +kernel, by decide +kernel⟩
theorem pn_Reader_refuse : plainName M_Reader_refuse.1.cls = true := by decide +kernel
def M_Reader_isBlank : pM := (⟨"CornerMaps$Reader", "isBlank", "(I)Z"⟩, prog_8_method_18_code, 1, some .boolean)
theorem co_Reader_isBlank : CalOK M_Reader_isBlank 1 := ⟨g_at 354 (by decide +kernel) rfl, g_at 6 (by decide +kernel) rfl, by decide +kernel, by decide +kernel, by decide +kernel⟩
theorem pn_Reader_isBlank : plainName M_Reader_isBlank.1.cls = true := by decide +kernel
def M_Reader_isLetter : pM := (⟨"CornerMaps$Reader", "isLetter", "(I)Z"⟩, prog_8_method_19_code, 1, some .boolean)
theorem co_Reader_isLetter : CalOK M_Reader_isLetter 1 := ⟨g_at 357 (by decide +kernel) rfl, g_at 6 (by decide +kernel) rfl, by decide +kernel, by decide +kernel, by decide +kernel⟩
theorem pn_Reader_isLetter : plainName M_Reader_isLetter.1.cls = true := by decide +kernel
def M_Reader_nextWord : pM := (⟨"CornerMaps$Reader", "nextWord", "()V"⟩, prog_8_method_15_code, 2, none)
theorem co_Reader_nextWord : CalOK M_Reader_nextWord 0 := ⟨g_at 361 (by decide +kernel) rfl, g_at 6 (by decide +kernel) rfl, by decide +kernel, by decide +kernel, by decide +kernel⟩
theorem pn_Reader_nextWord : plainName M_Reader_nextWord.1.cls = true := by decide +kernel
def M_Reader_isDigit : pM := (⟨"CornerMaps$Reader", "isDigit", "(I)Z"⟩, prog_8_method_20_code, 1, some .boolean)
theorem co_Reader_isDigit : CalOK M_Reader_isDigit 1 := ⟨g_at 364 (by decide +kernel) rfl, g_at 6 (by decide +kernel) rfl, by decide +kernel, by decide +kernel, by decide +kernel⟩
theorem pn_Reader_isDigit : plainName M_Reader_isDigit.1.cls = true := by decide +kernel
def M_Reader_nextDigits : pM := (⟨"CornerMaps$Reader", "nextDigits", "()V"⟩, prog_8_method_16_code, 1, none)
theorem co_Reader_nextDigits : CalOK M_Reader_nextDigits 0 := ⟨g_at 368 (by decide +kernel) rfl, g_at 6 (by decide +kernel) rfl, by decide +kernel, by decide +kernel, by decide +kernel⟩
theorem pn_Reader_nextDigits : plainName M_Reader_nextDigits.1.cls = true := by decide +kernel
def M_Reader_nextSign : pM := (⟨"CornerMaps$Reader", "nextSign", "(I)V"⟩, prog_8_method_17_code, 2, none)
theorem co_Reader_nextSign : CalOK M_Reader_nextSign 1 := ⟨g_at 373 (by decide +kernel) rfl, g_at 6 (by decide +kernel) rfl, by decide +kernel, by decide +kernel, by decide +kernel⟩
theorem pn_Reader_nextSign : plainName M_Reader_nextSign.1.cls = true := by decide +kernel
def M_Reader_readName : pM := (⟨"CornerMaps$Reader", "readName", "([II)Z"⟩, prog_8_method_6_code, 3, some .boolean)
theorem co_Reader_readName : CalOK M_Reader_readName 2 := ⟨g_at 394 (by decide +kernel) rfl, g_at 6 (by decide +kernel) rfl, by decide +kernel, by decide +kernel, by decide +kernel⟩
theorem pn_Reader_readName : plainName M_Reader_readName.1.cls = true := by decide +kernel
def M_Reader_readNumbers : pM := (⟨"CornerMaps$Reader", "readNumbers", "(II)Z"⟩, prog_8_method_9_code, 6, some .boolean)
theorem co_Reader_readNumbers : CalOK M_Reader_readNumbers 2 := ⟨g_at 407 (by decide +kernel) rfl, g_at 6 (by decide +kernel) rfl, by decide +kernel, by decide +kernel, by decide +kernel⟩
theorem pn_Reader_readNumbers : plainName M_Reader_readNumbers.1.cls = true := by decide +kernel
def M_Rows_put : pM := (⟨"CornerMaps$Rows", "put", "(JJJ[J)V"⟩, prog_9_method_7_code, 7, none)
theorem co_Rows_put : CalOK M_Rows_put 4 := ⟨g_at 410 (by decide +kernel) rfl, g_at 15 (by decide +kernel) rfl, by decide +kernel, by decide +kernel, by decide +kernel⟩
theorem pn_Rows_put : plainName M_Rows_put.1.cls = true := by decide +kernel
def M_Quad_isFlat : pM := (⟨"CornerMaps$Quad", "isFlat", "()Z"⟩, prog_7_method_3_code, 1, some .boolean)
theorem co_Quad_isFlat : CalOK M_Quad_isFlat 0 := ⟨g_at 414 (by decide +kernel) rfl, g_at 3 (by decide +kernel) rfl, by decide +kernel, by decide +kernel, by decide +kernel⟩
theorem pn_Quad_isFlat : plainName M_Quad_isFlat.1.cls = true := by decide +kernel
def M_Reader_refuseAt : pM := (⟨"CornerMaps$Reader", "refuseAt", "(II)Z"⟩, prog_8_method_11_code, 3, some .boolean)
theorem co_Reader_refuseAt : CalOK M_Reader_refuseAt 2 := ⟨g_at 390 (by decide +kernel) rfl, g_at 6 (by decide +kernel) rfl, by decide +kernel, by decide +kernel, by decide +kernel⟩
theorem pn_Reader_refuseAt : plainName M_Reader_refuseAt.1.cls = true := by decide +kernel
def M_Reader_isName : pM := (⟨"CornerMaps$Reader", "isName", "()Z"⟩, prog_8_method_13_code, 1, some .boolean)
theorem co_Reader_isName : CalOK M_Reader_isName 0 := ⟨g_at 398 (by decide +kernel) rfl, g_at 6 (by decide +kernel) rfl, by decide +kernel, by decide +kernel, by decide +kernel⟩
theorem pn_Reader_isName : plainName M_Reader_isName.1.cls = true := by decide +kernel
def M_Reader_placeAmong : pM := (⟨"CornerMaps$Reader", "placeAmong", "([II)I"⟩, prog_8_method_8_code, 4, some .int)
theorem co_Reader_placeAmong : CalOK M_Reader_placeAmong 2 := ⟨g_at 403 (by decide +kernel) rfl, g_at 6 (by decide +kernel) rfl, by decide +kernel, by decide +kernel, by decide +kernel⟩
theorem pn_Reader_placeAmong : plainName M_Reader_placeAmong.1.cls = true := by decide +kernel
def M_Quad_turnAt : pM := (⟨"CornerMaps$Quad", "turnAt", "(I)J"⟩, prog_7_method_2_code, 2, some .long)
theorem co_Quad_turnAt : CalOK M_Quad_turnAt 1 := ⟨g_at 418 (by decide +kernel) rfl, g_at 3 (by decide +kernel) rfl, by decide +kernel, by decide +kernel, by decide +kernel⟩
theorem pn_Quad_turnAt : plainName M_Quad_turnAt.1.cls = true := by decide +kernel
def M_Rows_determinant : pM := (⟨"CornerMaps$Rows", "determinant", "([J[J[J)J"⟩, prog_9_method_15_code, 3, some .long)
theorem co_Rows_determinant : CalOK M_Rows_determinant 3 := ⟨g_at 421 (by decide +kernel) rfl, g_at 15 (by decide +kernel) rfl, by decide +kernel, by decide +kernel, by decide +kernel⟩
theorem pn_Rows_determinant : plainName M_Rows_determinant.1.cls = true := by decide +kernel
def M_Reader_readToldQuad : pM := (⟨"CornerMaps$Reader", "readToldQuad", "()I"⟩, prog_8_method_7_code, 2, some .int)
theorem co_Reader_readToldQuad : CalOK M_Reader_readToldQuad 0 := ⟨g_at 429 (by decide +kernel) rfl, g_at 6 (by decide +kernel) rfl, by decide +kernel, by decide +kernel, by decide +kernel⟩
theorem pn_Reader_readToldQuad : plainName M_Reader_readToldQuad.1.cls = true := by decide +kernel
def M_Maker_between : pM := (⟨"CornerMaps$Maker", "between", "(LCornerMaps$Quad;LCornerMaps$Quad;I[J)V"⟩, prog_2_method_2_code, 5, none)
theorem co_Maker_between : CalOK M_Maker_between 4 := ⟨g_at 433 (by decide +kernel) rfl, g_at 5 (by decide +kernel) rfl, by decide +kernel, by decide +kernel, by decide +kernel⟩
theorem pn_Maker_between : plainName M_Maker_between.1.cls = true := by decide +kernel
def M_Maps_isLarge : pM := (⟨"CornerMaps$Maps", "isLarge", "([J)Z"⟩, prog_3_method_2_code, 1, some .boolean)
theorem co_Maps_isLarge : CalOK M_Maps_isLarge 1 := ⟨g_at 463 (by decide +kernel) rfl, g_at 16 (by decide +kernel) rfl, by decide +kernel, by decide +kernel, by decide +kernel⟩
theorem pn_Maps_isLarge : plainName M_Maps_isLarge.1.cls = true := by decide +kernel
def M_Plane_addMap : pM := (⟨"CornerMaps$Plane", "addMap", "([J)V"⟩, prog_6_method_6_code, 2, none)
theorem co_Plane_addMap : CalOK M_Plane_addMap 1 := ⟨g_at 474 (by decide +kernel) rfl, g_at 2 (by decide +kernel) rfl, by decide +kernel, by decide +kernel, by decide +kernel⟩
theorem pn_Plane_addMap : plainName M_Plane_addMap.1.cls = true := by decide +kernel
def M_Quad_putFrame : pM := (⟨"CornerMaps$Quad", "putFrame", "(I[J)V"⟩, prog_7_method_14_code, 14, none)
theorem co_Quad_putFrame : CalOK M_Quad_putFrame 2 := ⟨g_at 437 (by decide +kernel) rfl, g_at 3 (by decide +kernel) rfl, by decide +kernel, by decide +kernel, by decide +kernel⟩
theorem pn_Quad_putFrame : plainName M_Quad_putFrame.1.cls = true := by decide +kernel
def M_Maps_invert : pM := (⟨"CornerMaps$Maps", "invert", "([J[J)V"⟩, prog_3_method_9_code, 2, none)
theorem co_Maps_invert : CalOK M_Maps_invert 2 := ⟨g_at 442 (by decide +kernel) rfl, g_at 16 (by decide +kernel) rfl, by decide +kernel, by decide +kernel, by decide +kernel⟩
theorem pn_Maps_invert : plainName M_Maps_invert.1.cls = true := by decide +kernel
def M_Maps_multiply : pM := (⟨"CornerMaps$Maps", "multiply", "([J[J[J)V"⟩, prog_3_method_8_code, 3, none)
theorem co_Maps_multiply : CalOK M_Maps_multiply 3 := ⟨g_at 457 (by decide +kernel) rfl, g_at 16 (by decide +kernel) rfl, by decide +kernel, by decide +kernel, by decide +kernel⟩
theorem pn_Maps_multiply : plainName M_Maps_multiply.1.cls = true := by decide +kernel
def M_Rows_reduce : pM := (⟨"CornerMaps$Rows", "reduce", "([J)V"⟩, prog_9_method_5_code, 4, none)
theorem co_Rows_reduce : CalOK M_Rows_reduce 1 := ⟨g_at 445 (by decide +kernel) rfl, g_at 15 (by decide +kernel) rfl, by decide +kernel, by decide +kernel, by decide +kernel⟩
theorem pn_Rows_reduce : plainName M_Rows_reduce.1.cls = true := by decide +kernel
def M_Rows_divisor : pM := (⟨"CornerMaps$Rows", "divisor", "(JJ)J"⟩, prog_9_method_2_code, 11, some .long)
theorem co_Rows_divisor : CalOK M_Rows_divisor 2 := ⟨g_at 448 (by decide +kernel) rfl, g_at 15 (by decide +kernel) rfl, by decide +kernel, by decide +kernel, by decide +kernel⟩
theorem pn_Rows_divisor : plainName M_Rows_divisor.1.cls = true := by decide +kernel
def M_Rows_lastPlace : pM := (⟨"CornerMaps$Rows", "lastPlace", "([J)I"⟩, prog_9_method_4_code, 2, some .int)
theorem co_Rows_lastPlace : CalOK M_Rows_lastPlace 1 := ⟨g_at 454 (by decide +kernel) rfl, g_at 15 (by decide +kernel) rfl, by decide +kernel, by decide +kernel, by decide +kernel⟩
theorem pn_Rows_lastPlace : plainName M_Rows_lastPlace.1.cls = true := by decide +kernel
def M_Maps_multiplyRaw : pM := (⟨"CornerMaps$Maps", "multiplyRaw", "([J[J[J)V"⟩, prog_3_method_7_code, 5, none)
theorem co_Maps_multiplyRaw : CalOK M_Maps_multiplyRaw 3 := ⟨g_at 460 (by decide +kernel) rfl, g_at 16 (by decide +kernel) rfl, by decide +kernel, by decide +kernel, by decide +kernel⟩
theorem pn_Maps_multiplyRaw : plainName M_Maps_multiplyRaw.1.cls = true := by decide +kernel
def M_Rows_greatest : pM := (⟨"CornerMaps$Rows", "greatest", "([J)J"⟩, prog_9_method_11_code, 4, some .long)
theorem co_Rows_greatest : CalOK M_Rows_greatest 1 := ⟨g_at 466 (by decide +kernel) rfl, g_at 15 (by decide +kernel) rfl, by decide +kernel, by decide +kernel, by decide +kernel⟩
theorem pn_Rows_greatest : plainName M_Rows_greatest.1.cls = true := by decide +kernel
def M_Rows_copy : pM := (⟨"CornerMaps$Rows", "copy", "([J[J)V"⟩, prog_9_method_8_code, 2, none)
theorem co_Rows_copy : CalOK M_Rows_copy 2 := ⟨g_at 477 (by decide +kernel) rfl, g_at 15 (by decide +kernel) rfl, by decide +kernel, by decide +kernel, by decide +kernel⟩
theorem pn_Rows_copy : plainName M_Rows_copy.1.cls = true := by decide +kernel
def M_Plane_addPoint : pM := (⟨"CornerMaps$Plane", "addPoint", "([J)V"⟩, prog_6_method_9_code, 2, none)
theorem co_Plane_addPoint : CalOK M_Plane_addPoint 1 := ⟨g_at 490 (by decide +kernel) rfl, g_at 2 (by decide +kernel) rfl, by decide +kernel, by decide +kernel, by decide +kernel⟩
theorem pn_Plane_addPoint : plainName M_Plane_addPoint.1.cls = true := by decide +kernel
def M_CM_fault : pM := (⟨"CornerMaps", "fault", "(I)I"⟩, prog_1_method_4_code, 2, some .int)
theorem co_CM_fault : CalOK M_CM_fault 1 := ⟨g_at 499 (by decide +kernel) rfl, g_at 1 (by decide +kernel) rfl, by decide +kernel, by decide +kernel, by decide +kernel⟩
theorem pn_CM_fault : plainName M_CM_fault.1.cls = true := by decide +kernel
def M_CM_shape : pM := (⟨"CornerMaps", "shape", "(I)I"⟩, prog_1_method_8_code, 2, some .int)
theorem co_CM_shape : CalOK M_CM_shape 1 := ⟨g_at 503 (by decide +kernel) rfl, g_at 1 (by decide +kernel) rfl, by decide +kernel, by decide +kernel, by decide +kernel⟩
theorem pn_CM_shape : plainName M_CM_shape.1.cls = true := by decide +kernel
def M_Plane_hasQuad : pM := (⟨"CornerMaps$Plane", "hasQuad", "(I)Z"⟩, prog_6_method_3_code, 2, some .boolean)
theorem co_Plane_hasQuad : CalOK M_Plane_hasQuad 1 := ⟨g_at 507 (by decide +kernel) rfl, g_at 2 (by decide +kernel) rfl, by decide +kernel, by decide +kernel, by decide +kernel⟩
theorem pn_Plane_hasQuad : plainName M_Plane_hasQuad.1.cls = true := by decide +kernel
def M_Quad_leftTurns : pM := (⟨"CornerMaps$Quad", "leftTurns", "()I"⟩, prog_7_method_4_code, 3, some .int)
theorem co_Quad_leftTurns : CalOK M_Quad_leftTurns 0 := ⟨g_at 511 (by decide +kernel) rfl, g_at 3 (by decide +kernel) rfl, by decide +kernel, by decide +kernel, by decide +kernel⟩
theorem pn_Quad_leftTurns : plainName M_Quad_leftTurns.1.cls = true := by decide +kernel
def M_Quad_formOf : pM := (⟨"CornerMaps$Quad", "formOf", "(I)I"⟩, prog_7_method_6_code, 2, some .int)
theorem co_Quad_formOf : CalOK M_Quad_formOf 1 := ⟨g_at 514 (by decide +kernel) rfl, g_at 3 (by decide +kernel) rfl, by decide +kernel, by decide +kernel, by decide +kernel⟩
theorem pn_Quad_formOf : plainName M_Quad_formOf.1.cls = true := by decide +kernel
def M_Integer_bitCount : pM := (⟨"java/lang/Integer", "bitCount", "(I)I"⟩, prog_22_method_49_code, 1, some .int)
theorem co_Integer_bitCount : CalOK M_Integer_bitCount 1 := ⟨g_at 517 (by decide +kernel) rfl, g_at 26 (by decide +kernel) rfl, by decide +kernel, by decide +kernel, by decide +kernel⟩
theorem pn_Integer_bitCount : plainName M_Integer_bitCount.1.cls = true := by decide +kernel
def M_CM_dent : pM := (⟨"CornerMaps", "dent", "(I)I"⟩, prog_1_method_9_code, 5, some .int)
theorem co_CM_dent : CalOK M_CM_dent 1 := ⟨g_at 524 (by decide +kernel) rfl, g_at 1 (by decide +kernel) rfl, by decide +kernel, by decide +kernel, by decide +kernel⟩
theorem pn_CM_dent : plainName M_CM_dent.1.cls = true := by decide +kernel
def M_CM_area : pM := (⟨"CornerMaps", "area", "(I)I"⟩, prog_1_method_10_code, 2, some .int)
theorem co_CM_area : CalOK M_CM_area 1 := ⟨g_at 529 (by decide +kernel) rfl, g_at 1 (by decide +kernel) rfl, by decide +kernel, by decide +kernel, by decide +kernel⟩
theorem pn_CM_area : plainName M_CM_area.1.cls = true := by decide +kernel
def M_Quad_doubledArea : pM := (⟨"CornerMaps$Quad", "doubledArea", "()J"⟩, prog_7_method_7_code, 6, some .long)
theorem co_Quad_doubledArea : CalOK M_Quad_doubledArea 0 := ⟨g_at 533 (by decide +kernel) rfl, g_at 3 (by decide +kernel) rfl, by decide +kernel, by decide +kernel, by decide +kernel⟩
theorem pn_Quad_doubledArea : plainName M_Quad_doubledArea.1.cls = true := by decide +kernel
def M_CM_make : pM := (⟨"CornerMaps", "make", "(II)I"⟩, prog_1_method_11_code, 3, some .int)
theorem co_CM_make : CalOK M_CM_make 2 := ⟨g_at 538 (by decide +kernel) rfl, g_at 1 (by decide +kernel) rfl, by decide +kernel, by decide +kernel, by decide +kernel⟩
theorem pn_CM_make : plainName M_CM_make.1.cls = true := by decide +kernel
def M_CM_keepMap : pM := (⟨"CornerMaps", "keepMap", "([J)I"⟩, prog_1_method_85_code, 2, some .int)
theorem co_CM_keepMap : CalOK M_CM_keepMap 1 := ⟨g_at 543 (by decide +kernel) rfl, g_at 1 (by decide +kernel) rfl, by decide +kernel, by decide +kernel, by decide +kernel⟩
theorem pn_CM_keepMap : plainName M_CM_keepMap.1.cls = true := by decide +kernel
def M_Past_made : pM := (⟨"CornerMaps$Past", "made", "()V"⟩, prog_5_method_3_code, 1, none)
theorem co_Past_made : CalOK M_Past_made 0 := ⟨g_at 549 (by decide +kernel) rfl, g_at 7 (by decide +kernel) rfl, by decide +kernel, by decide +kernel, by decide +kernel⟩
theorem pn_Past_made : plainName M_Past_made.1.cls = true := by decide +kernel
def M_Past_nextPlace : pM := (⟨"CornerMaps$Past", "nextPlace", "()I"⟩, prog_5_method_7_code, 1, some .int)
theorem co_Past_nextPlace : CalOK M_Past_nextPlace 0 := ⟨g_at 553 (by decide +kernel) rfl, g_at 7 (by decide +kernel) rfl, by decide +kernel, by decide +kernel, by decide +kernel⟩
theorem pn_Past_nextPlace : plainName M_Past_nextPlace.1.cls = true := by decide +kernel
def M_CM_square : pM := (⟨"CornerMaps", "square", "(II)I"⟩, prog_1_method_12_code, 3, some .int)
theorem co_CM_square : CalOK M_CM_square 2 := ⟨g_at 557 (by decide +kernel) rfl, g_at 1 (by decide +kernel) rfl, by decide +kernel, by decide +kernel, by decide +kernel⟩
theorem pn_CM_square : plainName M_CM_square.1.cls = true := by decide +kernel
def M_Maker_toSquare : pM := (⟨"CornerMaps$Maker", "toSquare", "(LCornerMaps$Quad;I[J)V"⟩, prog_2_method_3_code, 4, none)
theorem co_Maker_toSquare : CalOK M_Maker_toSquare 3 := ⟨g_at 561 (by decide +kernel) rfl, g_at 5 (by decide +kernel) rfl, by decide +kernel, by decide +kernel, by decide +kernel⟩
theorem pn_Maker_toSquare : plainName M_Maker_toSquare.1.cls = true := by decide +kernel
def M_CM_product : pM := (⟨"CornerMaps", "product", "(II)I"⟩, prog_1_method_13_code, 3, some .int)
theorem co_CM_product : CalOK M_CM_product 2 := ⟨g_at 567 (by decide +kernel) rfl, g_at 1 (by decide +kernel) rfl, by decide +kernel, by decide +kernel, by decide +kernel⟩
theorem pn_CM_product : plainName M_CM_product.1.cls = true := by decide +kernel
def M_Plane_hasMap : pM := (⟨"CornerMaps$Plane", "hasMap", "(I)Z"⟩, prog_6_method_4_code, 2, some .boolean)
theorem co_Plane_hasMap : CalOK M_Plane_hasMap 1 := ⟨g_at 571 (by decide +kernel) rfl, g_at 2 (by decide +kernel) rfl, by decide +kernel, by decide +kernel, by decide +kernel⟩
theorem pn_Plane_hasMap : plainName M_Plane_hasMap.1.cls = true := by decide +kernel
def M_CM_inverse : pM := (⟨"CornerMaps", "inverse", "(I)I"⟩, prog_1_method_14_code, 2, some .int)
theorem co_CM_inverse : CalOK M_CM_inverse 1 := ⟨g_at 576 (by decide +kernel) rfl, g_at 1 (by decide +kernel) rfl, by decide +kernel, by decide +kernel, by decide +kernel⟩
theorem pn_CM_inverse : plainName M_CM_inverse.1.cls = true := by decide +kernel
def M_CM_power : pM := (⟨"CornerMaps", "power", "(II)I"⟩, prog_1_method_15_code, 4, some .int)
theorem co_CM_power : CalOK M_CM_power 2 := ⟨g_at 581 (by decide +kernel) rfl, g_at 1 (by decide +kernel) rfl, by decide +kernel, by decide +kernel, by decide +kernel⟩
theorem pn_CM_power : plainName M_CM_power.1.cls = true := by decide +kernel
def M_CM_rise : pM := (⟨"CornerMaps", "rise", "([J)Z"⟩, prog_1_method_86_code, 2, some .boolean)
theorem co_CM_rise : CalOK M_CM_rise 1 := ⟨g_at 588 (by decide +kernel) rfl, g_at 1 (by decide +kernel) rfl, by decide +kernel, by decide +kernel, by decide +kernel⟩
theorem pn_CM_rise : plainName M_CM_rise.1.cls = true := by decide +kernel
def M_CM_drop : pM := (⟨"CornerMaps", "drop", "(I)I"⟩, prog_1_method_16_code, 2, some .int)
theorem co_CM_drop : CalOK M_CM_drop 1 := ⟨g_at 592 (by decide +kernel) rfl, g_at 1 (by decide +kernel) rfl, by decide +kernel, by decide +kernel, by decide +kernel⟩
theorem pn_CM_drop : plainName M_CM_drop.1.cls = true := by decide +kernel
def M_Past_dropped : pM := (⟨"CornerMaps$Past", "dropped", "(I[J)V"⟩, prog_5_method_5_code, 4, none)
theorem co_Past_dropped : CalOK M_Past_dropped 2 := ⟨g_at 596 (by decide +kernel) rfl, g_at 7 (by decide +kernel) rfl, by decide +kernel, by decide +kernel, by decide +kernel⟩
theorem pn_Past_dropped : plainName M_Past_dropped.1.cls = true := by decide +kernel
def M_Plane_removeMap : pM := (⟨"CornerMaps$Plane", "removeMap", "(I)V"⟩, prog_6_method_7_code, 3, none)
theorem co_Plane_removeMap : CalOK M_Plane_removeMap 1 := ⟨g_at 601 (by decide +kernel) rfl, g_at 2 (by decide +kernel) rfl, by decide +kernel, by decide +kernel, by decide +kernel⟩
theorem pn_Plane_removeMap : plainName M_Plane_removeMap.1.cls = true := by decide +kernel
def M_CM_tell : pM := (⟨"CornerMaps", "tell", "(III)I"⟩, prog_1_method_17_code, 4, some .int)
theorem co_CM_tell : CalOK M_CM_tell 3 := ⟨g_at 606 (by decide +kernel) rfl, g_at 1 (by decide +kernel) rfl, by decide +kernel, by decide +kernel, by decide +kernel⟩
theorem pn_CM_tell : plainName M_CM_tell.1.cls = true := by decide +kernel
def M_CM_areNumbers : pM := (⟨"CornerMaps", "areNumbers", "(III)Z"⟩, prog_1_method_79_code, 3, some .boolean)
theorem co_CM_areNumbers : CalOK M_CM_areNumbers 3 := ⟨g_at 609 (by decide +kernel) rfl, g_at 1 (by decide +kernel) rfl, by decide +kernel, by decide +kernel, by decide +kernel⟩
theorem pn_CM_areNumbers : plainName M_CM_areNumbers.1.cls = true := by decide +kernel
def M_CM_isSomething : pM := (⟨"CornerMaps", "isSomething", "(III)Z"⟩, prog_1_method_80_code, 3, some .boolean)
theorem co_CM_isSomething : CalOK M_CM_isSomething 3 := ⟨g_at 615 (by decide +kernel) rfl, g_at 1 (by decide +kernel) rfl, by decide +kernel, by decide +kernel, by decide +kernel⟩
theorem pn_CM_isSomething : plainName M_CM_isSomething.1.cls = true := by decide +kernel
def M_Past_told : pM := (⟨"CornerMaps$Past", "told", "()V"⟩, prog_5_method_4_code, 1, none)
theorem co_Past_told : CalOK M_Past_told 0 := ⟨g_at 621 (by decide +kernel) rfl, g_at 7 (by decide +kernel) rfl, by decide +kernel, by decide +kernel, by decide +kernel⟩
theorem pn_Past_told : plainName M_Past_told.1.cls = true := by decide +kernel
def M_CM_isNumber : pM := (⟨"CornerMaps", "isNumber", "(I)Z"⟩, prog_1_method_78_code, 1, some .boolean)
theorem co_CM_isNumber : CalOK M_CM_isNumber 1 := ⟨g_at 612 (by decide +kernel) rfl, g_at 1 (by decide +kernel) rfl, by decide +kernel, by decide +kernel, by decide +kernel⟩
theorem pn_CM_isNumber : plainName M_CM_isNumber.1.cls = true := by decide +kernel
def M_CM_moves : pM := (⟨"CornerMaps", "moves", "(I)I"⟩, prog_1_method_18_code, 3, some .int)
theorem co_CM_moves : CalOK M_CM_moves 1 := ⟨g_at 625 (by decide +kernel) rfl, g_at 1 (by decide +kernel) rfl, by decide +kernel, by decide +kernel, by decide +kernel⟩
theorem pn_CM_moves : plainName M_CM_moves.1.cls = true := by decide +kernel
def M_Maps_apply : pM := (⟨"CornerMaps$Maps", "apply", "([J[J[J)V"⟩, prog_3_method_4_code, 4, none)
theorem co_Maps_apply : CalOK M_Maps_apply 3 := ⟨g_at 628 (by decide +kernel) rfl, g_at 16 (by decide +kernel) rfl, by decide +kernel, by decide +kernel, by decide +kernel⟩
theorem pn_Maps_apply : plainName M_Maps_apply.1.cls = true := by decide +kernel
def M_Rows_isNear : pM := (⟨"CornerMaps$Rows", "isNear", "([J)Z"⟩, prog_9_method_12_code, 1, some .boolean)
theorem co_Rows_isNear : CalOK M_Rows_isNear 1 := ⟨g_at 631 (by decide +kernel) rfl, g_at 15 (by decide +kernel) rfl, by decide +kernel, by decide +kernel, by decide +kernel⟩
theorem pn_Rows_isNear : plainName M_Rows_isNear.1.cls = true := by decide +kernel
def M_Past_moved : pM := (⟨"CornerMaps$Past", "moved", "([[J)V"⟩, prog_5_method_6_code, 4, none)
theorem co_Past_moved : CalOK M_Past_moved 1 := ⟨g_at 637 (by decide +kernel) rfl, g_at 7 (by decide +kernel) rfl, by decide +kernel, by decide +kernel, by decide +kernel⟩
theorem pn_Past_moved : plainName M_Past_moved.1.cls = true := by decide +kernel
def M_Plane_finitePoints : pM := (⟨"CornerMaps$Plane", "finitePoints", "()I"⟩, prog_6_method_10_code, 3, some .int)
theorem co_Plane_finitePoints : CalOK M_Plane_finitePoints 0 := ⟨g_at 642 (by decide +kernel) rfl, g_at 2 (by decide +kernel) rfl, by decide +kernel, by decide +kernel, by decide +kernel⟩
theorem pn_Plane_finitePoints : plainName M_Plane_finitePoints.1.cls = true := by decide +kernel
theorem sm_Reader_isBlank : Cond.static M_Reader_isBlank.1 ∈ gtbl := g_at 353 (by decide +kernel) rfl
theorem sm_Reader_isLetter : Cond.static M_Reader_isLetter.1 ∈ gtbl := g_at 356 (by decide +kernel) rfl
theorem sm_Reader_isDigit : Cond.static M_Reader_isDigit.1 ∈ gtbl := g_at 363 (by decide +kernel) rfl
theorem sm_Rows_put : Cond.static M_Rows_put.1 ∈ gtbl := g_at 409 (by decide +kernel) rfl
theorem sm_Rows_determinant : Cond.static M_Rows_determinant.1 ∈ gtbl := g_at 420 (by decide +kernel) rfl
theorem sm_Maps_isLarge : Cond.static M_Maps_isLarge.1 ∈ gtbl := g_at 462 (by decide +kernel) rfl
theorem sm_Maps_invert : Cond.static M_Maps_invert.1 ∈ gtbl := g_at 441 (by decide +kernel) rfl
theorem sm_Maps_multiply : Cond.static M_Maps_multiply.1 ∈ gtbl := g_at 456 (by decide +kernel) rfl
theorem sm_Rows_reduce : Cond.static M_Rows_reduce.1 ∈ gtbl := g_at 444 (by decide +kernel) rfl
theorem sm_Rows_divisor : Cond.static M_Rows_divisor.1 ∈ gtbl := g_at 447 (by decide +kernel) rfl
theorem sm_Rows_lastPlace : Cond.static M_Rows_lastPlace.1 ∈ gtbl := g_at 453 (by decide +kernel) rfl
theorem sm_Maps_multiplyRaw : Cond.static M_Maps_multiplyRaw.1 ∈ gtbl := g_at 459 (by decide +kernel) rfl
theorem sm_Rows_greatest : Cond.static M_Rows_greatest.1 ∈ gtbl := g_at 465 (by decide +kernel) rfl
theorem sm_Rows_copy : Cond.static M_Rows_copy.1 ∈ gtbl := g_at 476 (by decide +kernel) rfl
theorem sm_Quad_formOf : Cond.static M_Quad_formOf.1 ∈ gtbl := g_at 513 (by decide +kernel) rfl
theorem sm_Integer_bitCount : Cond.static M_Integer_bitCount.1 ∈ gtbl := g_at 516 (by decide +kernel) rfl
theorem sm_CM_areNumbers : Cond.static M_CM_areNumbers.1 ∈ gtbl := g_at 608 (by decide +kernel) rfl
theorem sm_CM_isSomething : Cond.static M_CM_isSomething.1 ∈ gtbl := g_at 614 (by decide +kernel) rfl
theorem sm_CM_isNumber : Cond.static M_CM_isNumber.1 ∈ gtbl := g_at 611 (by decide +kernel) rfl
theorem sm_Maps_apply : Cond.static M_Maps_apply.1 ∈ gtbl := g_at 627 (by decide +kernel) rfl
theorem sm_Rows_isNear : Cond.static M_Rows_isNear.1 ∈ gtbl := g_at 630 (by decide +kernel) rfl
theorem im_Tape_hasRoomFor : Cond.instanceMethod M_Tape_hasRoomFor.1 ∈ gtbl := g_at 326 (by decide +kernel) rfl
theorem se_Tape_hasRoomFor : Cond.selects M_Tape_hasRoomFor.1.cls M_Tape_hasRoomFor.1 M_Tape_hasRoomFor.1 ∈ gtbl := g_at 327 (by decide +kernel) rfl
theorem im_Tape_put : Cond.instanceMethod M_Tape_put.1 ∈ gtbl := g_at 330 (by decide +kernel) rfl
theorem se_Tape_put : Cond.selects M_Tape_put.1.cls M_Tape_put.1 M_Tape_put.1 ∈ gtbl := g_at 331 (by decide +kernel) rfl
theorem im_Reader_read : Cond.instanceMethod M_Reader_read.1 ∈ gtbl := g_at 338 (by decide +kernel) rfl
theorem se_Reader_read : Cond.selects M_Reader_read.1.cls M_Reader_read.1 M_Reader_read.1 ∈ gtbl := g_at 339 (by decide +kernel) rfl
theorem im_Past_forget : Cond.instanceMethod M_Past_forget.1 ∈ gtbl := g_at 493 (by decide +kernel) rfl
theorem se_Past_forget : Cond.selects M_Past_forget.1.cls M_Past_forget.1 M_Past_forget.1 ∈ gtbl := g_at 494 (by decide +kernel) rfl
theorem im_Plane_clear : Cond.instanceMethod M_Plane_clear.1 ∈ gtbl := g_at 342 (by decide +kernel) rfl
theorem se_Plane_clear : Cond.selects M_Plane_clear.1.cls M_Plane_clear.1 M_Plane_clear.1 ∈ gtbl := g_at 343 (by decide +kernel) rfl
theorem im_Reader_next : Cond.instanceMethod M_Reader_next.1 ∈ gtbl := g_at 350 (by decide +kernel) rfl
theorem se_Reader_next : Cond.selects M_Reader_next.1.cls M_Reader_next.1 M_Reader_next.1 ∈ gtbl := g_sel 0 (by decide +kernel) rfl
theorem im_Reader_isWord : Cond.instanceMethod M_Reader_isWord.1 ∈ gtbl := g_at 377 (by decide +kernel) rfl
theorem se_Reader_isWord : Cond.selects M_Reader_isWord.1.cls M_Reader_isWord.1 M_Reader_isWord.1 ∈ gtbl := g_sel 4 (by decide +kernel) rfl
theorem im_Reader_readQuad : Cond.instanceMethod M_Reader_readQuad.1 ∈ gtbl := g_at 381 (by decide +kernel) rfl
theorem se_Reader_readQuad : Cond.selects M_Reader_readQuad.1.cls M_Reader_readQuad.1 M_Reader_readQuad.1 ∈ gtbl := g_sel 5 (by decide +kernel) rfl
theorem im_Reader_readMap : Cond.instanceMethod M_Reader_readMap.1 ∈ gtbl := g_at 424 (by decide +kernel) rfl
theorem se_Reader_readMap : Cond.selects M_Reader_readMap.1.cls M_Reader_readMap.1 M_Reader_readMap.1 ∈ gtbl := g_sel 12 (by decide +kernel) rfl
theorem im_Reader_readPoint : Cond.instanceMethod M_Reader_readPoint.1 ∈ gtbl := g_at 484 (by decide +kernel) rfl
theorem se_Reader_readPoint : Cond.selects M_Reader_readPoint.1.cls M_Reader_readPoint.1 M_Reader_readPoint.1 ∈ gtbl := g_sel 14 (by decide +kernel) rfl
theorem im_Reader_refuse : Cond.instanceMethod M_Reader_refuse.1 ∈ gtbl := g_at 385 (by decide +kernel) rfl
theorem se_Reader_refuse : Cond.selects M_Reader_refuse.1.cls M_Reader_refuse.1 M_Reader_refuse.1 ∈ gtbl := g_sel 6 (by decide +kernel) rfl
theorem im_Reader_nextWord : Cond.instanceMethod M_Reader_nextWord.1 ∈ gtbl := g_at 360 (by decide +kernel) rfl
theorem se_Reader_nextWord : Cond.selects M_Reader_nextWord.1.cls M_Reader_nextWord.1 M_Reader_nextWord.1 ∈ gtbl := g_sel 1 (by decide +kernel) rfl
theorem im_Reader_nextDigits : Cond.instanceMethod M_Reader_nextDigits.1 ∈ gtbl := g_at 367 (by decide +kernel) rfl
theorem se_Reader_nextDigits : Cond.selects M_Reader_nextDigits.1.cls M_Reader_nextDigits.1 M_Reader_nextDigits.1 ∈ gtbl := g_sel 2 (by decide +kernel) rfl
theorem im_Reader_nextSign : Cond.instanceMethod M_Reader_nextSign.1 ∈ gtbl := g_at 372 (by decide +kernel) rfl
theorem se_Reader_nextSign : Cond.selects M_Reader_nextSign.1.cls M_Reader_nextSign.1 M_Reader_nextSign.1 ∈ gtbl := g_sel 3 (by decide +kernel) rfl
theorem im_Reader_readName : Cond.instanceMethod M_Reader_readName.1 ∈ gtbl := g_at 393 (by decide +kernel) rfl
theorem se_Reader_readName : Cond.selects M_Reader_readName.1.cls M_Reader_readName.1 M_Reader_readName.1 ∈ gtbl := g_sel 8 (by decide +kernel) rfl
theorem im_Reader_readNumbers : Cond.instanceMethod M_Reader_readNumbers.1 ∈ gtbl := g_at 406 (by decide +kernel) rfl
theorem se_Reader_readNumbers : Cond.selects M_Reader_readNumbers.1.cls M_Reader_readNumbers.1 M_Reader_readNumbers.1 ∈ gtbl := g_sel 11 (by decide +kernel) rfl
theorem im_Quad_isFlat : Cond.instanceMethod M_Quad_isFlat.1 ∈ gtbl := g_at 412 (by decide +kernel) rfl
theorem se_Quad_isFlat : Cond.selects M_Quad_isFlat.1.cls M_Quad_isFlat.1 M_Quad_isFlat.1 ∈ gtbl := g_at 413 (by decide +kernel) rfl
theorem im_Reader_refuseAt : Cond.instanceMethod M_Reader_refuseAt.1 ∈ gtbl := g_at 389 (by decide +kernel) rfl
theorem se_Reader_refuseAt : Cond.selects M_Reader_refuseAt.1.cls M_Reader_refuseAt.1 M_Reader_refuseAt.1 ∈ gtbl := g_sel 7 (by decide +kernel) rfl
theorem im_Reader_isName : Cond.instanceMethod M_Reader_isName.1 ∈ gtbl := g_at 397 (by decide +kernel) rfl
theorem se_Reader_isName : Cond.selects M_Reader_isName.1.cls M_Reader_isName.1 M_Reader_isName.1 ∈ gtbl := g_sel 9 (by decide +kernel) rfl
theorem im_Reader_placeAmong : Cond.instanceMethod M_Reader_placeAmong.1 ∈ gtbl := g_at 402 (by decide +kernel) rfl
theorem se_Reader_placeAmong : Cond.selects M_Reader_placeAmong.1.cls M_Reader_placeAmong.1 M_Reader_placeAmong.1 ∈ gtbl := g_sel 10 (by decide +kernel) rfl
theorem im_Quad_turnAt : Cond.instanceMethod M_Quad_turnAt.1 ∈ gtbl := g_at 416 (by decide +kernel) rfl
theorem se_Quad_turnAt : Cond.selects M_Quad_turnAt.1.cls M_Quad_turnAt.1 M_Quad_turnAt.1 ∈ gtbl := g_at 417 (by decide +kernel) rfl
theorem im_Reader_readToldQuad : Cond.instanceMethod M_Reader_readToldQuad.1 ∈ gtbl := g_at 428 (by decide +kernel) rfl
theorem se_Reader_readToldQuad : Cond.selects M_Reader_readToldQuad.1.cls M_Reader_readToldQuad.1 M_Reader_readToldQuad.1 ∈ gtbl := g_sel 13 (by decide +kernel) rfl
theorem im_Maker_between : Cond.instanceMethod M_Maker_between.1 ∈ gtbl := g_at 431 (by decide +kernel) rfl
theorem se_Maker_between : Cond.selects M_Maker_between.1.cls M_Maker_between.1 M_Maker_between.1 ∈ gtbl := g_at 432 (by decide +kernel) rfl
theorem im_Plane_addMap : Cond.instanceMethod M_Plane_addMap.1 ∈ gtbl := g_at 472 (by decide +kernel) rfl
theorem se_Plane_addMap : Cond.selects M_Plane_addMap.1.cls M_Plane_addMap.1 M_Plane_addMap.1 ∈ gtbl := g_at 473 (by decide +kernel) rfl
theorem im_Quad_putFrame : Cond.instanceMethod M_Quad_putFrame.1 ∈ gtbl := g_at 435 (by decide +kernel) rfl
theorem se_Quad_putFrame : Cond.selects M_Quad_putFrame.1.cls M_Quad_putFrame.1 M_Quad_putFrame.1 ∈ gtbl := g_at 436 (by decide +kernel) rfl
theorem im_Plane_addPoint : Cond.instanceMethod M_Plane_addPoint.1 ∈ gtbl := g_at 488 (by decide +kernel) rfl
theorem se_Plane_addPoint : Cond.selects M_Plane_addPoint.1.cls M_Plane_addPoint.1 M_Plane_addPoint.1 ∈ gtbl := g_at 489 (by decide +kernel) rfl
theorem im_Plane_hasQuad : Cond.instanceMethod M_Plane_hasQuad.1 ∈ gtbl := g_at 505 (by decide +kernel) rfl
theorem se_Plane_hasQuad : Cond.selects M_Plane_hasQuad.1.cls M_Plane_hasQuad.1 M_Plane_hasQuad.1 ∈ gtbl := g_at 506 (by decide +kernel) rfl
theorem im_Quad_leftTurns : Cond.instanceMethod M_Quad_leftTurns.1 ∈ gtbl := g_at 509 (by decide +kernel) rfl
theorem se_Quad_leftTurns : Cond.selects M_Quad_leftTurns.1.cls M_Quad_leftTurns.1 M_Quad_leftTurns.1 ∈ gtbl := g_at 510 (by decide +kernel) rfl
theorem im_Quad_doubledArea : Cond.instanceMethod M_Quad_doubledArea.1 ∈ gtbl := g_at 531 (by decide +kernel) rfl
theorem se_Quad_doubledArea : Cond.selects M_Quad_doubledArea.1.cls M_Quad_doubledArea.1 M_Quad_doubledArea.1 ∈ gtbl := g_at 532 (by decide +kernel) rfl
theorem im_CM_keepMap : Cond.instanceMethod M_CM_keepMap.1 ∈ gtbl := g_at 542 (by decide +kernel) rfl
theorem se_CM_keepMap : Cond.selects M_CM_keepMap.1.cls M_CM_keepMap.1 M_CM_keepMap.1 ∈ gtbl := g_sel 15 (by decide +kernel) rfl
theorem im_Past_made : Cond.instanceMethod M_Past_made.1 ∈ gtbl := g_at 547 (by decide +kernel) rfl
theorem se_Past_made : Cond.selects M_Past_made.1.cls M_Past_made.1 M_Past_made.1 ∈ gtbl := g_at 548 (by decide +kernel) rfl
theorem im_Past_nextPlace : Cond.instanceMethod M_Past_nextPlace.1 ∈ gtbl := g_at 552 (by decide +kernel) rfl
theorem se_Past_nextPlace : Cond.selects M_Past_nextPlace.1.cls M_Past_nextPlace.1 M_Past_nextPlace.1 ∈ gtbl := g_sel 16 (by decide +kernel) rfl
theorem im_Maker_toSquare : Cond.instanceMethod M_Maker_toSquare.1 ∈ gtbl := g_at 559 (by decide +kernel) rfl
theorem se_Maker_toSquare : Cond.selects M_Maker_toSquare.1.cls M_Maker_toSquare.1 M_Maker_toSquare.1 ∈ gtbl := g_at 560 (by decide +kernel) rfl
theorem im_Plane_hasMap : Cond.instanceMethod M_Plane_hasMap.1 ∈ gtbl := g_at 569 (by decide +kernel) rfl
theorem se_Plane_hasMap : Cond.selects M_Plane_hasMap.1.cls M_Plane_hasMap.1 M_Plane_hasMap.1 ∈ gtbl := g_at 570 (by decide +kernel) rfl
theorem im_CM_rise : Cond.instanceMethod M_CM_rise.1 ∈ gtbl := g_at 587 (by decide +kernel) rfl
theorem se_CM_rise : Cond.selects M_CM_rise.1.cls M_CM_rise.1 M_CM_rise.1 ∈ gtbl := g_sel 17 (by decide +kernel) rfl
theorem im_Past_dropped : Cond.instanceMethod M_Past_dropped.1 ∈ gtbl := g_at 594 (by decide +kernel) rfl
theorem se_Past_dropped : Cond.selects M_Past_dropped.1.cls M_Past_dropped.1 M_Past_dropped.1 ∈ gtbl := g_at 595 (by decide +kernel) rfl
theorem im_Plane_removeMap : Cond.instanceMethod M_Plane_removeMap.1 ∈ gtbl := g_at 599 (by decide +kernel) rfl
theorem se_Plane_removeMap : Cond.selects M_Plane_removeMap.1.cls M_Plane_removeMap.1 M_Plane_removeMap.1 ∈ gtbl := g_at 600 (by decide +kernel) rfl
theorem im_Past_told : Cond.instanceMethod M_Past_told.1 ∈ gtbl := g_at 619 (by decide +kernel) rfl
theorem se_Past_told : Cond.selects M_Past_told.1.cls M_Past_told.1 M_Past_told.1 ∈ gtbl := g_at 620 (by decide +kernel) rfl
theorem im_Past_moved : Cond.instanceMethod M_Past_moved.1 ∈ gtbl := g_at 635 (by decide +kernel) rfl
theorem se_Past_moved : Cond.selects M_Past_moved.1.cls M_Past_moved.1 M_Past_moved.1 ∈ gtbl := g_at 636 (by decide +kernel) rfl
theorem im_Plane_finitePoints : Cond.instanceMethod M_Plane_finitePoints.1 ∈ gtbl := g_at 640 (by decide +kernel) rfl
theorem se_Plane_finitePoints : Cond.selects M_Plane_finitePoints.1.cls M_Plane_finitePoints.1 M_Plane_finitePoints.1 ∈ gtbl := g_at 641 (by decide +kernel) rfl
theorem L_CM_99 : Cond.methodLink "CornerMaps" 99 ⟨"CornerMaps$Tape", "hasRoomFor", "(I)Z"⟩ ∈ gtbl := g_at 325 (by decide +kernel) rfl
theorem L_CM_103 : Cond.methodLink "CornerMaps" 103 ⟨"CornerMaps$Tape", "put", "(I)V"⟩ ∈ gtbl := g_at 329 (by decide +kernel) rfl
theorem L_CM_107 : Cond.fieldLinkNest "CornerMaps" 107 "CornerMaps$Tape" "length" "I" "CornerMaps" ∈ ntbl := nt_at 113 (by decide +kernel) rfl
theorem L_Tape_15 : Cond.fieldLink "CornerMaps$Tape" 15 "CornerMaps$Tape" "length" "I" ∈ gtbl := g_at 111 (by decide +kernel) rfl
theorem L_CM_111 : Cond.methodLink "CornerMaps" 111 ⟨"CornerMaps$Reader", "read", "(ILCornerMaps$Plane;)Z"⟩ ∈ gtbl := g_at 337 (by decide +kernel) rfl
theorem L_CM_115 : Cond.methodLink "CornerMaps" 115 ⟨"CornerMaps$Past", "forget", "()V"⟩ ∈ gtbl := g_at 492 (by decide +kernel) rfl
theorem L_CM_118 : Cond.fieldLinkNest "CornerMaps" 118 "CornerMaps$Plane" "lineCount" "I" "CornerMaps" ∈ ntbl := nt_at 75 (by decide +kernel) rfl
theorem L_Reader_41 : Cond.methodLink "CornerMaps$Reader" 41 ⟨"CornerMaps$Plane", "clear", "()V"⟩ ∈ gtbl := g_at 341 (by decide +kernel) rfl
theorem L_Reader_46 : Cond.fieldLinkNest "CornerMaps$Reader" 46 "CornerMaps$Tape" "length" "I" "CornerMaps" ∈ ntbl := nt_at 112 (by decide +kernel) rfl
theorem L_Reader_51 : Cond.methodLink "CornerMaps$Reader" 51 ⟨"java/lang/Math", "min", "(II)I"⟩ ∈ gtbl := g_at 345 (by decide +kernel) rfl
theorem L_Reader_57 : Cond.fieldLink "CornerMaps$Reader" 57 "CornerMaps$Reader" "end" "I" ∈ gtbl := g_at 151 (by decide +kernel) rfl
theorem L_Reader_60 : Cond.fieldLink "CornerMaps$Reader" 60 "CornerMaps$Reader" "at" "I" ∈ gtbl := g_at 152 (by decide +kernel) rfl
theorem L_Reader_63 : Cond.fieldLink "CornerMaps$Reader" 63 "CornerMaps$Reader" "fault" "I" ∈ gtbl := g_at 156 (by decide +kernel) rfl
theorem L_Reader_66 : Cond.methodLink "CornerMaps$Reader" 66 ⟨"CornerMaps$Reader", "next", "()V"⟩ ∈ gtbl := g_at 348 (by decide +kernel) rfl
theorem L_Reader_69 : Cond.fieldLink "CornerMaps$Reader" 69 "CornerMaps$Reader" "token" "I" ∈ gtbl := g_at 153 (by decide +kernel) rfl
theorem L_Reader_72 : Cond.constant "CornerMaps$Reader" 72 (349951 : Int32) ∈ gtbl := g_at 374 (by decide +kernel) rfl
theorem L_Reader_73 : Cond.methodLink "CornerMaps$Reader" 73 ⟨"CornerMaps$Reader", "isWord", "(I)Z"⟩ ∈ gtbl := g_at 375 (by decide +kernel) rfl
theorem L_Reader_77 : Cond.methodLink "CornerMaps$Reader" 77 ⟨"CornerMaps$Reader", "readQuad", "()Z"⟩ ∈ gtbl := g_at 379 (by decide +kernel) rfl
theorem L_Reader_81 : Cond.methodLink "CornerMaps$Reader" 81 ⟨"CornerMaps$Reader", "readMap", "()Z"⟩ ∈ gtbl := g_at 422 (by decide +kernel) rfl
theorem L_Reader_84 : Cond.constant "CornerMaps$Reader" 84 (8805260 : Int32) ∈ gtbl := g_at 399 (by decide +kernel) rfl
theorem L_Reader_85 : Cond.methodLink "CornerMaps$Reader" 85 ⟨"CornerMaps$Reader", "readPoint", "()Z"⟩ ∈ gtbl := g_at 482 (by decide +kernel) rfl
theorem L_Reader_88 : Cond.methodLink "CornerMaps$Reader" 88 ⟨"CornerMaps$Reader", "refuse", "(I)Z"⟩ ∈ gtbl := g_at 383 (by decide +kernel) rfl
theorem L_Reader_91 : Cond.fieldLinkNest "CornerMaps$Reader" 91 "CornerMaps$Plane" "lineCount" "I" "CornerMaps" ∈ ntbl := nt_at 74 (by decide +kernel) rfl
theorem L_Plane_26 : Cond.fieldLink "CornerMaps$Plane" 26 "CornerMaps$Plane" "lineCount" "I" ∈ gtbl := g_at 73 (by decide +kernel) rfl
theorem L_Plane_30 : Cond.fieldLink "CornerMaps$Plane" 30 "CornerMaps$Plane" "quadCount" "I" ∈ gtbl := g_at 76 (by decide +kernel) rfl
theorem L_Plane_33 : Cond.fieldLink "CornerMaps$Plane" 33 "CornerMaps$Plane" "mapCount" "I" ∈ gtbl := g_at 80 (by decide +kernel) rfl
theorem L_Plane_36 : Cond.fieldLink "CornerMaps$Plane" 36 "CornerMaps$Plane" "pointCount" "I" ∈ gtbl := g_at 84 (by decide +kernel) rfl
theorem L_Reader_173 : Cond.fieldLinkNest "CornerMaps$Reader" 173 "CornerMaps$Tape" "bytes" "[I" "CornerMaps" ∈ ntbl := nt_at 110 (by decide +kernel) rfl
theorem L_Reader_176 : Cond.methodLink "CornerMaps$Reader" 176 ⟨"CornerMaps$Reader", "isBlank", "(I)Z"⟩ ∈ gtbl := g_at 352 (by decide +kernel) rfl
theorem L_Reader_167 : Cond.fieldLink "CornerMaps$Reader" 167 "CornerMaps$Reader" "tokenPlace" "I" ∈ gtbl := g_at 154 (by decide +kernel) rfl
theorem L_Reader_164 : Cond.fieldLink "CornerMaps$Reader" 164 "CornerMaps$Reader" "value" "I" ∈ gtbl := g_at 155 (by decide +kernel) rfl
theorem L_Reader_179 : Cond.methodLink "CornerMaps$Reader" 179 ⟨"CornerMaps$Reader", "isLetter", "(I)Z"⟩ ∈ gtbl := g_at 355 (by decide +kernel) rfl
theorem L_Reader_182 : Cond.methodLink "CornerMaps$Reader" 182 ⟨"CornerMaps$Reader", "nextWord", "()V"⟩ ∈ gtbl := g_at 358 (by decide +kernel) rfl
theorem L_Reader_185 : Cond.methodLink "CornerMaps$Reader" 185 ⟨"CornerMaps$Reader", "isDigit", "(I)Z"⟩ ∈ gtbl := g_at 362 (by decide +kernel) rfl
theorem L_Reader_188 : Cond.methodLink "CornerMaps$Reader" 188 ⟨"CornerMaps$Reader", "nextDigits", "()V"⟩ ∈ gtbl := g_at 365 (by decide +kernel) rfl
theorem L_Reader_191 : Cond.methodLink "CornerMaps$Reader" 191 ⟨"CornerMaps$Reader", "nextSign", "(I)V"⟩ ∈ gtbl := g_at 370 (by decide +kernel) rfl
theorem L_Reader_195 : Cond.constant "CornerMaps$Reader" 195 (100000 : Int32) ∈ gtbl := g_at 369 (by decide +kernel) rfl
theorem L_Reader_94 : Cond.fieldLinkNest "CornerMaps$Reader" 94 "CornerMaps$Plane" "quadCount" "I" "CornerMaps" ∈ ntbl := nt_at 77 (by decide +kernel) rfl
theorem L_Reader_97 : Cond.methodLink "CornerMaps$Reader" 97 ⟨"CornerMaps$Reader", "readName", "([II)Z"⟩ ∈ gtbl := g_at 391 (by decide +kernel) rfl
theorem L_Reader_101 : Cond.fieldLinkNest "CornerMaps$Reader" 101 "CornerMaps$Plane" "quads" "[LCornerMaps$Quad;" "CornerMaps" ∈ ntbl := nt_at 65 (by decide +kernel) rfl
theorem L_Reader_105 : Cond.methodLink "CornerMaps$Reader" 105 ⟨"CornerMaps$Reader", "readNumbers", "(II)Z"⟩ ∈ gtbl := g_at 404 (by decide +kernel) rfl
theorem L_Reader_109 : Cond.fieldLinkNest "CornerMaps$Reader" 109 "CornerMaps$Quad" "corners" "[[J" "CornerMaps" ∈ ntbl := nt_at 58 (by decide +kernel) rfl
theorem L_Reader_115 : Cond.methodLink "CornerMaps$Reader" 115 ⟨"CornerMaps$Rows", "put", "(JJJ[J)V"⟩ ∈ gtbl := g_at 408 (by decide +kernel) rfl
theorem L_Reader_121 : Cond.methodLink "CornerMaps$Reader" 121 ⟨"CornerMaps$Quad", "isFlat", "()Z"⟩ ∈ gtbl := g_at 411 (by decide +kernel) rfl
theorem L_Reader_170 : Cond.methodLink "CornerMaps$Reader" 170 ⟨"CornerMaps$Reader", "refuseAt", "(II)Z"⟩ ∈ gtbl := g_at 387 (by decide +kernel) rfl
theorem L_Reader_157 : Cond.methodLink "CornerMaps$Reader" 157 ⟨"CornerMaps$Reader", "isName", "()Z"⟩ ∈ gtbl := g_at 395 (by decide +kernel) rfl
theorem L_Reader_160 : Cond.methodLink "CornerMaps$Reader" 160 ⟨"CornerMaps$Reader", "placeAmong", "([II)I"⟩ ∈ gtbl := g_at 400 (by decide +kernel) rfl
theorem L_Quad_22 : Cond.methodLink "CornerMaps$Quad" 22 ⟨"CornerMaps$Quad", "turnAt", "(I)J"⟩ ∈ gtbl := g_at 415 (by decide +kernel) rfl
theorem L_Quad_16 : Cond.methodLink "CornerMaps$Quad" 16 ⟨"CornerMaps$Rows", "determinant", "([J[J[J)J"⟩ ∈ gtbl := g_at 419 (by decide +kernel) rfl
theorem L_Reader_124 : Cond.fieldLinkNest "CornerMaps$Reader" 124 "CornerMaps$Plane" "mapCount" "I" "CornerMaps" ∈ ntbl := nt_at 81 (by decide +kernel) rfl
theorem L_Reader_127 : Cond.methodLink "CornerMaps$Reader" 127 ⟨"CornerMaps$Reader", "readToldQuad", "()I"⟩ ∈ gtbl := g_at 426 (by decide +kernel) rfl
theorem L_Reader_131 : Cond.methodLink "CornerMaps$Reader" 131 ⟨"CornerMaps$Maker", "between", "(LCornerMaps$Quad;LCornerMaps$Quad;I[J)V"⟩ ∈ gtbl := g_at 430 (by decide +kernel) rfl
theorem L_Reader_137 : Cond.methodLink "CornerMaps$Reader" 137 ⟨"CornerMaps$Maps", "isLarge", "([J)Z"⟩ ∈ gtbl := g_at 461 (by decide +kernel) rfl
theorem L_Reader_143 : Cond.methodLink "CornerMaps$Reader" 143 ⟨"CornerMaps$Plane", "addMap", "([J)V"⟩ ∈ gtbl := g_at 471 (by decide +kernel) rfl
theorem L_Maker_23 : Cond.methodLink "CornerMaps$Maker" 23 ⟨"CornerMaps$Quad", "putFrame", "(I[J)V"⟩ ∈ gtbl := g_at 434 (by decide +kernel) rfl
theorem L_Maker_27 : Cond.methodLink "CornerMaps$Maker" 27 ⟨"CornerMaps$Maps", "invert", "([J[J)V"⟩ ∈ gtbl := g_at 440 (by decide +kernel) rfl
theorem L_Maker_33 : Cond.methodLink "CornerMaps$Maker" 33 ⟨"CornerMaps$Maps", "multiply", "([J[J[J)V"⟩ ∈ gtbl := g_at 455 (by decide +kernel) rfl
theorem L_Quad_62 : Cond.fieldLinkNest "CornerMaps$Quad" 62 "CornerMaps" "ORDERS" "[I" "CornerMaps" ∈ ntbl := nt_at 438 (by decide +kernel) rfl
theorem L_Maps_17 : Cond.methodLink "CornerMaps$Maps" 17 ⟨"CornerMaps$Rows", "reduce", "([J)V"⟩ ∈ gtbl := g_at 443 (by decide +kernel) rfl
theorem L_Rows_17 : Cond.methodLink "CornerMaps$Rows" 17 ⟨"CornerMaps$Rows", "divisor", "(JJ)J"⟩ ∈ gtbl := g_at 446 (by decide +kernel) rfl
theorem L_Rows_21 : Cond.methodLink "CornerMaps$Rows" 21 ⟨"CornerMaps$Rows", "lastPlace", "([J)I"⟩ ∈ gtbl := g_at 452 (by decide +kernel) rfl
theorem L_Rows_9 : Cond.methodLink "CornerMaps$Rows" 9 ⟨"java/lang/Math", "abs", "(J)J"⟩ ∈ gtbl := g_at 449 (by decide +kernel) rfl
theorem L_Maps_31 : Cond.methodLink "CornerMaps$Maps" 31 ⟨"CornerMaps$Maps", "multiplyRaw", "([J[J[J)V"⟩ ∈ gtbl := g_at 458 (by decide +kernel) rfl
theorem L_Maps_9 : Cond.methodLink "CornerMaps$Maps" 9 ⟨"CornerMaps$Rows", "greatest", "([J)J"⟩ ∈ gtbl := g_at 464 (by decide +kernel) rfl
theorem L_Maps_15 : Cond.constantLong "CornerMaps$Maps" 15 (1000000000 : Int64) ∈ gtbl := g_at 470 (by decide +kernel) rfl
theorem L_Rows_35 : Cond.methodLink "CornerMaps$Rows" 35 ⟨"java/lang/Math", "max", "(JJ)J"⟩ ∈ gtbl := g_at 467 (by decide +kernel) rfl
theorem L_Plane_39 : Cond.methodLink "CornerMaps$Plane" 39 ⟨"CornerMaps$Rows", "copy", "([J[J)V"⟩ ∈ gtbl := g_at 475 (by decide +kernel) rfl
theorem L_Rows_25 : Cond.methodLink "CornerMaps$Rows" 25 ⟨"java/lang/Math", "min", "(II)I"⟩ ∈ gtbl := g_at 478 (by decide +kernel) rfl
theorem L_Rows_29 : Cond.methodLink "CornerMaps$Rows" 29 ⟨"java/lang/System", "arraycopy", "(Ljava/lang/Object;ILjava/lang/Object;II)V"⟩ ∈ gtbl := g_at 479 (by decide +kernel) rfl
theorem L_Reader_147 : Cond.fieldLinkNest "CornerMaps$Reader" 147 "CornerMaps$Plane" "pointCount" "I" "CornerMaps" ∈ ntbl := nt_at 85 (by decide +kernel) rfl
theorem L_Reader_150 : Cond.methodLink "CornerMaps$Reader" 150 ⟨"CornerMaps$Rows", "greatest", "([J)J"⟩ ∈ gtbl := g_at 486 (by decide +kernel) rfl
theorem L_Reader_154 : Cond.methodLink "CornerMaps$Reader" 154 ⟨"CornerMaps$Plane", "addPoint", "([J)V"⟩ ∈ gtbl := g_at 487 (by decide +kernel) rfl
theorem L_Plane_49 : Cond.methodLink "CornerMaps$Plane" 49 ⟨"CornerMaps$Rows", "reduce", "([J)V"⟩ ∈ gtbl := g_at 491 (by decide +kernel) rfl
theorem L_Past_23 : Cond.fieldLink "CornerMaps$Past" 23 "CornerMaps$Past" "count" "I" ∈ gtbl := g_at 200 (by decide +kernel) rfl
theorem L_CM_121 : Cond.fieldLinkNest "CornerMaps" 121 "CornerMaps$Reader" "fault" "I" "CornerMaps" ∈ ntbl := nt_at 157 (by decide +kernel) rfl
theorem L_CM_124 : Cond.fieldLinkNest "CornerMaps" 124 "CornerMaps$Reader" "faultPlace" "I" "CornerMaps" ∈ ntbl := nt_at 159 (by decide +kernel) rfl
theorem L_CM_127 : Cond.methodLink "CornerMaps" 127 ⟨"CornerMaps$Plane", "hasQuad", "(I)Z"⟩ ∈ gtbl := g_at 504 (by decide +kernel) rfl
theorem L_CM_142 : Cond.fieldLinkNest "CornerMaps" 142 "CornerMaps$Plane" "quads" "[LCornerMaps$Quad;" "CornerMaps" ∈ ntbl := nt_at 66 (by decide +kernel) rfl
theorem L_CM_166 : Cond.methodLink "CornerMaps" 166 ⟨"CornerMaps$Quad", "leftTurns", "()I"⟩ ∈ gtbl := g_at 508 (by decide +kernel) rfl
theorem L_CM_170 : Cond.methodLink "CornerMaps" 170 ⟨"CornerMaps$Quad", "formOf", "(I)I"⟩ ∈ gtbl := g_at 512 (by decide +kernel) rfl
theorem L_Quad_36 : Cond.methodLink "CornerMaps$Quad" 36 ⟨"java/lang/Integer", "bitCount", "(I)I"⟩ ∈ gtbl := g_at 515 (by decide +kernel) rfl
theorem L_CM_174 : Cond.methodLink "CornerMaps" 174 ⟨"java/lang/Integer", "bitCount", "(I)I"⟩ ∈ gtbl := g_at 525 (by decide +kernel) rfl
theorem L_CM_179 : Cond.methodLink "CornerMaps" 179 ⟨"CornerMaps$Quad", "doubledArea", "()J"⟩ ∈ gtbl := g_at 530 (by decide +kernel) rfl
theorem L_CM_183 : Cond.constant "CornerMaps" 183 (-100000 : Int32) ∈ gtbl := g_at 534 (by decide +kernel) rfl
theorem L_CM_184 : Cond.methodLink "CornerMaps" 184 ⟨"CornerMaps$Maker", "between", "(LCornerMaps$Quad;LCornerMaps$Quad;I[J)V"⟩ ∈ gtbl := g_at 539 (by decide +kernel) rfl
theorem L_CM_188 : Cond.methodLink "CornerMaps" 188 ⟨"CornerMaps", "keepMap", "([J)I"⟩ ∈ gtbl := g_at 540 (by decide +kernel) rfl
theorem L_CM_272 : Cond.methodLink "CornerMaps" 272 ⟨"CornerMaps$Maps", "isLarge", "([J)Z"⟩ ∈ gtbl := g_at 544 (by decide +kernel) rfl
theorem L_CM_225 : Cond.fieldLinkNest "CornerMaps" 225 "CornerMaps$Plane" "mapCount" "I" "CornerMaps" ∈ ntbl := nt_at 83 (by decide +kernel) rfl
theorem L_CM_446 : Cond.methodLink "CornerMaps" 446 ⟨"CornerMaps$Plane", "addMap", "([J)V"⟩ ∈ gtbl := g_at 545 (by decide +kernel) rfl
theorem L_CM_449 : Cond.methodLink "CornerMaps" 449 ⟨"CornerMaps$Past", "made", "()V"⟩ ∈ gtbl := g_at 546 (by decide +kernel) rfl
theorem L_Past_27 : Cond.methodLink "CornerMaps$Past" 27 ⟨"CornerMaps$Past", "nextPlace", "()I"⟩ ∈ gtbl := g_at 550 (by decide +kernel) rfl
theorem L_Past_43 : Cond.fieldLink "CornerMaps$Past" 43 "CornerMaps$Past" "eldest" "I" ∈ gtbl := g_at 199 (by decide +kernel) rfl
theorem L_CM_192 : Cond.methodLink "CornerMaps" 192 ⟨"CornerMaps$Maker", "toSquare", "(LCornerMaps$Quad;I[J)V"⟩ ∈ gtbl := g_at 558 (by decide +kernel) rfl
theorem L_Maker_37 : Cond.fieldLinkNest "CornerMaps$Maker" 37 "CornerMaps$Quad" "corners" "[[J" "CornerMaps" ∈ ntbl := nt_at 57 (by decide +kernel) rfl
theorem L_Maker_41 : Cond.methodLink "CornerMaps$Maker" 41 ⟨"CornerMaps$Rows", "put", "(JJJ[J)V"⟩ ∈ gtbl := g_at 562 (by decide +kernel) rfl
theorem L_Maker_47 : Cond.methodLink "CornerMaps$Maker" 47 ⟨"CornerMaps$Maker", "between", "(LCornerMaps$Quad;LCornerMaps$Quad;I[J)V"⟩ ∈ gtbl := g_at 563 (by decide +kernel) rfl
theorem L_CM_151 : Cond.methodLink "CornerMaps" 151 ⟨"CornerMaps$Plane", "hasMap", "(I)Z"⟩ ∈ gtbl := g_at 568 (by decide +kernel) rfl
theorem L_CM_157 : Cond.fieldLinkNest "CornerMaps" 157 "CornerMaps$Plane" "maps" "[[J" "CornerMaps" ∈ ntbl := nt_at 69 (by decide +kernel) rfl
theorem L_CM_196 : Cond.methodLink "CornerMaps" 196 ⟨"CornerMaps$Maps", "multiply", "([J[J[J)V"⟩ ∈ gtbl := g_at 572 (by decide +kernel) rfl
theorem L_CM_202 : Cond.methodLink "CornerMaps" 202 ⟨"CornerMaps$Maps", "invert", "([J[J)V"⟩ ∈ gtbl := g_at 577 (by decide +kernel) rfl
theorem L_CM_206 : Cond.fieldLink "CornerMaps" 206 "CornerMaps" "NOTHING" "[J" ∈ gtbl := g_at 582 (by decide +kernel) rfl
theorem L_CM_209 : Cond.methodLink "CornerMaps" 209 ⟨"CornerMaps$Rows", "copy", "([J[J)V"⟩ ∈ gtbl := g_at 584 (by decide +kernel) rfl
theorem L_CM_214 : Cond.methodLink "CornerMaps" 214 ⟨"CornerMaps", "rise", "([J)Z"⟩ ∈ gtbl := g_at 585 (by decide +kernel) rfl
theorem L_CM_218 : Cond.methodLink "CornerMaps" 218 ⟨"CornerMaps$Past", "dropped", "(I[J)V"⟩ ∈ gtbl := g_at 593 (by decide +kernel) rfl
theorem L_CM_222 : Cond.methodLink "CornerMaps" 222 ⟨"CornerMaps$Plane", "removeMap", "(I)V"⟩ ∈ gtbl := g_at 598 (by decide +kernel) rfl
theorem L_Past_31 : Cond.methodLink "CornerMaps$Past" 31 ⟨"CornerMaps$Rows", "copy", "([J[J)V"⟩ ∈ gtbl := g_at 597 (by decide +kernel) rfl
theorem L_Plane_45 : Cond.methodLink "CornerMaps$Plane" 45 ⟨"CornerMaps$Plane", "hasMap", "(I)Z"⟩ ∈ gtbl := g_at 602 (by decide +kernel) rfl
theorem L_CM_228 : Cond.methodLink "CornerMaps" 228 ⟨"CornerMaps", "areNumbers", "(III)Z"⟩ ∈ gtbl := g_at 607 (by decide +kernel) rfl
theorem L_CM_232 : Cond.fieldLinkNest "CornerMaps" 232 "CornerMaps$Plane" "pointCount" "I" "CornerMaps" ∈ ntbl := nt_at 87 (by decide +kernel) rfl
theorem L_CM_235 : Cond.methodLink "CornerMaps" 235 ⟨"CornerMaps", "isSomething", "(III)Z"⟩ ∈ gtbl := g_at 613 (by decide +kernel) rfl
theorem L_CM_238 : Cond.methodLink "CornerMaps" 238 ⟨"CornerMaps$Rows", "put", "(JJJ[J)V"⟩ ∈ gtbl := g_at 616 (by decide +kernel) rfl
theorem L_CM_241 : Cond.methodLink "CornerMaps" 241 ⟨"CornerMaps$Plane", "addPoint", "([J)V"⟩ ∈ gtbl := g_at 617 (by decide +kernel) rfl
theorem L_CM_245 : Cond.methodLink "CornerMaps" 245 ⟨"CornerMaps$Past", "told", "()V"⟩ ∈ gtbl := g_at 618 (by decide +kernel) rfl
theorem L_CM_443 : Cond.methodLink "CornerMaps" 443 ⟨"CornerMaps", "isNumber", "(I)Z"⟩ ∈ gtbl := g_at 610 (by decide +kernel) rfl
theorem L_CM_163 : Cond.fieldLinkNest "CornerMaps" 163 "CornerMaps$Plane" "points" "[[J" "CornerMaps" ∈ ntbl := nt_at 71 (by decide +kernel) rfl
theorem L_CM_248 : Cond.methodLink "CornerMaps" 248 ⟨"CornerMaps$Maps", "apply", "([J[J[J)V"⟩ ∈ gtbl := g_at 626 (by decide +kernel) rfl
theorem L_CM_251 : Cond.methodLink "CornerMaps" 251 ⟨"CornerMaps$Rows", "isNear", "([J)Z"⟩ ∈ gtbl := g_at 629 (by decide +kernel) rfl
theorem L_CM_254 : Cond.methodLink "CornerMaps" 254 ⟨"CornerMaps$Past", "moved", "([[J)V"⟩ ∈ gtbl := g_at 634 (by decide +kernel) rfl
theorem L_CM_257 : Cond.methodLink "CornerMaps" 257 ⟨"CornerMaps$Plane", "finitePoints", "()I"⟩ ∈ gtbl := g_at 639 (by decide +kernel) rfl
theorem L_Rows_38 : Cond.methodLink "CornerMaps$Rows" 38 ⟨"CornerMaps$Rows", "greatest", "([J)J"⟩ ∈ gtbl := g_at 632 (by decide +kernel) rfl
theorem L_Rows_42 : Cond.constantLong "CornerMaps$Rows" 42 (9999 : Int64) ∈ gtbl := g_at 633 (by decide +kernel) rfl
theorem F_CM_feed_0 : Jvm.Free.DS.Facts prog_1_method_2_code 0 [(.aload_n 0, 1), (.getfield 24, 3), (.bipush (20), 2), (.invokevirtual 99, 3), (.ifCond .ne (5), 3), (.iconst (-1), 1), (.ireturn, 1), (.aload_n 0, 1), (.getfield 24, 3), (.iload_n 1, 1), (.invokevirtual 103, 3), (.aload_n 0, 1), (.getfield 24, 3), (.iload_n 2, 1), (.invokevirtual 103, 3), (.aload_n 0, 1), (.getfield 24, 3), (.iload_n 3, 1), (.invokevirtual 103, 3), (.aload_n 0, 1), (.getfield 24, 3), (.iload 4, 2), (.invokevirtual 103, 3), (.aload_n 0, 1), (.getfield 24, 3), (.iload 5, 2), (.invokevirtual 103, 3), (.aload_n 0, 1), (.getfield 24, 3), (.getfield 107, 3), (.ireturn, 1)] := Jvm.Free.DS.facts 0 _ (by decide +kernel) (by decide +kernel)
theorem d_CM_feed_0 : decode prog_1_method_2_code 0 = .ok (.aload_n 0, 1) := F_CM_feed_0.1
theorem d_CM_feed_1 : decode prog_1_method_2_code 1 = .ok (.getfield 24, 3) := F_CM_feed_0.2.1
theorem d_CM_feed_4 : decode prog_1_method_2_code 4 = .ok (.bipush (20), 2) := F_CM_feed_0.2.2.1
theorem d_CM_feed_6 : decode prog_1_method_2_code 6 = .ok (.invokevirtual 99, 3) := F_CM_feed_0.2.2.2.1
theorem d_CM_feed_9 : decode prog_1_method_2_code 9 = .ok (.ifCond .ne (5), 3) := F_CM_feed_0.2.2.2.2.1
theorem d_CM_feed_12 : decode prog_1_method_2_code 12 = .ok (.iconst (-1), 1) := F_CM_feed_0.2.2.2.2.2.1
theorem d_CM_feed_13 : decode prog_1_method_2_code 13 = .ok (.ireturn, 1) := F_CM_feed_0.2.2.2.2.2.2.1
theorem d_CM_feed_14 : decode prog_1_method_2_code 14 = .ok (.aload_n 0, 1) := F_CM_feed_0.2.2.2.2.2.2.2.1
theorem d_CM_feed_15 : decode prog_1_method_2_code 15 = .ok (.getfield 24, 3) := F_CM_feed_0.2.2.2.2.2.2.2.2.1
theorem d_CM_feed_18 : decode prog_1_method_2_code 18 = .ok (.iload_n 1, 1) := F_CM_feed_0.2.2.2.2.2.2.2.2.2.1
theorem d_CM_feed_19 : decode prog_1_method_2_code 19 = .ok (.invokevirtual 103, 3) := F_CM_feed_0.2.2.2.2.2.2.2.2.2.2.1
theorem d_CM_feed_22 : decode prog_1_method_2_code 22 = .ok (.aload_n 0, 1) := F_CM_feed_0.2.2.2.2.2.2.2.2.2.2.2.1
theorem d_CM_feed_23 : decode prog_1_method_2_code 23 = .ok (.getfield 24, 3) := F_CM_feed_0.2.2.2.2.2.2.2.2.2.2.2.2.1
theorem d_CM_feed_26 : decode prog_1_method_2_code 26 = .ok (.iload_n 2, 1) := F_CM_feed_0.2.2.2.2.2.2.2.2.2.2.2.2.2.1
theorem d_CM_feed_27 : decode prog_1_method_2_code 27 = .ok (.invokevirtual 103, 3) := F_CM_feed_0.2.2.2.2.2.2.2.2.2.2.2.2.2.2.1
theorem d_CM_feed_30 : decode prog_1_method_2_code 30 = .ok (.aload_n 0, 1) := F_CM_feed_0.2.2.2.2.2.2.2.2.2.2.2.2.2.2.2.1
theorem d_CM_feed_31 : decode prog_1_method_2_code 31 = .ok (.getfield 24, 3) := F_CM_feed_0.2.2.2.2.2.2.2.2.2.2.2.2.2.2.2.2.1
theorem d_CM_feed_34 : decode prog_1_method_2_code 34 = .ok (.iload_n 3, 1) := F_CM_feed_0.2.2.2.2.2.2.2.2.2.2.2.2.2.2.2.2.2.1
theorem d_CM_feed_35 : decode prog_1_method_2_code 35 = .ok (.invokevirtual 103, 3) := F_CM_feed_0.2.2.2.2.2.2.2.2.2.2.2.2.2.2.2.2.2.2.1
theorem d_CM_feed_38 : decode prog_1_method_2_code 38 = .ok (.aload_n 0, 1) := F_CM_feed_0.2.2.2.2.2.2.2.2.2.2.2.2.2.2.2.2.2.2.2.1
theorem d_CM_feed_39 : decode prog_1_method_2_code 39 = .ok (.getfield 24, 3) := F_CM_feed_0.2.2.2.2.2.2.2.2.2.2.2.2.2.2.2.2.2.2.2.2.1
theorem d_CM_feed_42 : decode prog_1_method_2_code 42 = .ok (.iload 4, 2) := F_CM_feed_0.2.2.2.2.2.2.2.2.2.2.2.2.2.2.2.2.2.2.2.2.2.1
theorem d_CM_feed_44 : decode prog_1_method_2_code 44 = .ok (.invokevirtual 103, 3) := F_CM_feed_0.2.2.2.2.2.2.2.2.2.2.2.2.2.2.2.2.2.2.2.2.2.2.1
theorem d_CM_feed_47 : decode prog_1_method_2_code 47 = .ok (.aload_n 0, 1) := F_CM_feed_0.2.2.2.2.2.2.2.2.2.2.2.2.2.2.2.2.2.2.2.2.2.2.2.1
theorem d_CM_feed_48 : decode prog_1_method_2_code 48 = .ok (.getfield 24, 3) := F_CM_feed_0.2.2.2.2.2.2.2.2.2.2.2.2.2.2.2.2.2.2.2.2.2.2.2.2.1
theorem d_CM_feed_51 : decode prog_1_method_2_code 51 = .ok (.iload 5, 2) := F_CM_feed_0.2.2.2.2.2.2.2.2.2.2.2.2.2.2.2.2.2.2.2.2.2.2.2.2.2.1
theorem d_CM_feed_53 : decode prog_1_method_2_code 53 = .ok (.invokevirtual 103, 3) := F_CM_feed_0.2.2.2.2.2.2.2.2.2.2.2.2.2.2.2.2.2.2.2.2.2.2.2.2.2.2.1
theorem d_CM_feed_56 : decode prog_1_method_2_code 56 = .ok (.aload_n 0, 1) := F_CM_feed_0.2.2.2.2.2.2.2.2.2.2.2.2.2.2.2.2.2.2.2.2.2.2.2.2.2.2.2.1
theorem d_CM_feed_57 : decode prog_1_method_2_code 57 = .ok (.getfield 24, 3) := F_CM_feed_0.2.2.2.2.2.2.2.2.2.2.2.2.2.2.2.2.2.2.2.2.2.2.2.2.2.2.2.2.1
theorem d_CM_feed_60 : decode prog_1_method_2_code 60 = .ok (.getfield 107, 3) := F_CM_feed_0.2.2.2.2.2.2.2.2.2.2.2.2.2.2.2.2.2.2.2.2.2.2.2.2.2.2.2.2.2.1
theorem d_CM_feed_63 : decode prog_1_method_2_code 63 = .ok (.ireturn, 1) := F_CM_feed_0.2.2.2.2.2.2.2.2.2.2.2.2.2.2.2.2.2.2.2.2.2.2.2.2.2.2.2.2.2.2.1
theorem F_Tape_hasRoomFor_0 : Jvm.Free.DS.Facts prog_10_method_2_code 0 [(.aload_n 0, 1), (.getfield 15, 3), (.iload_n 1, 1), (.iadd, 1), (.sipush (900), 3), (.if_icmp .gt (7), 3), (.iconst 1, 1), (.goto (4), 3), (.iconst 0, 1), (.ireturn, 1)] := Jvm.Free.DS.facts 0 _ (by decide +kernel) (by decide +kernel)
theorem d_Tape_hasRoomFor_0 : decode prog_10_method_2_code 0 = .ok (.aload_n 0, 1) := F_Tape_hasRoomFor_0.1
theorem d_Tape_hasRoomFor_1 : decode prog_10_method_2_code 1 = .ok (.getfield 15, 3) := F_Tape_hasRoomFor_0.2.1
theorem d_Tape_hasRoomFor_4 : decode prog_10_method_2_code 4 = .ok (.iload_n 1, 1) := F_Tape_hasRoomFor_0.2.2.1
theorem d_Tape_hasRoomFor_5 : decode prog_10_method_2_code 5 = .ok (.iadd, 1) := F_Tape_hasRoomFor_0.2.2.2.1
theorem d_Tape_hasRoomFor_6 : decode prog_10_method_2_code 6 = .ok (.sipush (900), 3) := F_Tape_hasRoomFor_0.2.2.2.2.1
theorem d_Tape_hasRoomFor_9 : decode prog_10_method_2_code 9 = .ok (.if_icmp .gt (7), 3) := F_Tape_hasRoomFor_0.2.2.2.2.2.1
theorem d_Tape_hasRoomFor_12 : decode prog_10_method_2_code 12 = .ok (.iconst 1, 1) := F_Tape_hasRoomFor_0.2.2.2.2.2.2.1
theorem d_Tape_hasRoomFor_13 : decode prog_10_method_2_code 13 = .ok (.goto (4), 3) := F_Tape_hasRoomFor_0.2.2.2.2.2.2.2.1
theorem d_Tape_hasRoomFor_16 : decode prog_10_method_2_code 16 = .ok (.iconst 0, 1) := F_Tape_hasRoomFor_0.2.2.2.2.2.2.2.2.1
theorem d_Tape_hasRoomFor_17 : decode prog_10_method_2_code 17 = .ok (.ireturn, 1) := F_Tape_hasRoomFor_0.2.2.2.2.2.2.2.2.2.1
theorem F_Tape_put_0 : Jvm.Free.DS.Facts prog_10_method_3_code 0 [(.bipush (24), 2), (.istore_n 2, 1), (.iload_n 2, 1), (.ifCond .lt (45), 3), (.aload_n 0, 1), (.getfield 15, 3), (.sipush (900), 3), (.if_icmp .ge (35), 3), (.aload_n 0, 1), (.getfield 9, 3), (.aload_n 0, 1), (.getfield 15, 3), (.iload_n 1, 1), (.iload_n 2, 1), (.iushr, 1), (.sipush (255), 3), (.iand, 1), (.iastore, 1), (.aload_n 0, 1), (.dup, 1), (.getfield 15, 3), (.iconst 1, 1), (.iadd, 1), (.putfield 15, 3), (.iinc 2 (-8), 3), (.goto (-43), 3), (.return_, 1)] := Jvm.Free.DS.facts 0 _ (by decide +kernel) (by decide +kernel)
theorem d_Tape_put_0 : decode prog_10_method_3_code 0 = .ok (.bipush (24), 2) := F_Tape_put_0.1
theorem d_Tape_put_2 : decode prog_10_method_3_code 2 = .ok (.istore_n 2, 1) := F_Tape_put_0.2.1
theorem d_Tape_put_3 : decode prog_10_method_3_code 3 = .ok (.iload_n 2, 1) := F_Tape_put_0.2.2.1
theorem d_Tape_put_4 : decode prog_10_method_3_code 4 = .ok (.ifCond .lt (45), 3) := F_Tape_put_0.2.2.2.1
theorem d_Tape_put_7 : decode prog_10_method_3_code 7 = .ok (.aload_n 0, 1) := F_Tape_put_0.2.2.2.2.1
theorem d_Tape_put_8 : decode prog_10_method_3_code 8 = .ok (.getfield 15, 3) := F_Tape_put_0.2.2.2.2.2.1
theorem d_Tape_put_11 : decode prog_10_method_3_code 11 = .ok (.sipush (900), 3) := F_Tape_put_0.2.2.2.2.2.2.1
theorem d_Tape_put_14 : decode prog_10_method_3_code 14 = .ok (.if_icmp .ge (35), 3) := F_Tape_put_0.2.2.2.2.2.2.2.1
theorem d_Tape_put_17 : decode prog_10_method_3_code 17 = .ok (.aload_n 0, 1) := F_Tape_put_0.2.2.2.2.2.2.2.2.1
theorem d_Tape_put_18 : decode prog_10_method_3_code 18 = .ok (.getfield 9, 3) := F_Tape_put_0.2.2.2.2.2.2.2.2.2.1
theorem d_Tape_put_21 : decode prog_10_method_3_code 21 = .ok (.aload_n 0, 1) := F_Tape_put_0.2.2.2.2.2.2.2.2.2.2.1
theorem d_Tape_put_22 : decode prog_10_method_3_code 22 = .ok (.getfield 15, 3) := F_Tape_put_0.2.2.2.2.2.2.2.2.2.2.2.1
theorem d_Tape_put_25 : decode prog_10_method_3_code 25 = .ok (.iload_n 1, 1) := F_Tape_put_0.2.2.2.2.2.2.2.2.2.2.2.2.1
theorem d_Tape_put_26 : decode prog_10_method_3_code 26 = .ok (.iload_n 2, 1) := F_Tape_put_0.2.2.2.2.2.2.2.2.2.2.2.2.2.1
theorem d_Tape_put_27 : decode prog_10_method_3_code 27 = .ok (.iushr, 1) := F_Tape_put_0.2.2.2.2.2.2.2.2.2.2.2.2.2.2.1
theorem d_Tape_put_28 : decode prog_10_method_3_code 28 = .ok (.sipush (255), 3) := F_Tape_put_0.2.2.2.2.2.2.2.2.2.2.2.2.2.2.2.1
theorem d_Tape_put_31 : decode prog_10_method_3_code 31 = .ok (.iand, 1) := F_Tape_put_0.2.2.2.2.2.2.2.2.2.2.2.2.2.2.2.2.1
theorem d_Tape_put_32 : decode prog_10_method_3_code 32 = .ok (.iastore, 1) := F_Tape_put_0.2.2.2.2.2.2.2.2.2.2.2.2.2.2.2.2.2.1
theorem d_Tape_put_33 : decode prog_10_method_3_code 33 = .ok (.aload_n 0, 1) := F_Tape_put_0.2.2.2.2.2.2.2.2.2.2.2.2.2.2.2.2.2.2.1
theorem d_Tape_put_34 : decode prog_10_method_3_code 34 = .ok (.dup, 1) := F_Tape_put_0.2.2.2.2.2.2.2.2.2.2.2.2.2.2.2.2.2.2.2.1
theorem d_Tape_put_35 : decode prog_10_method_3_code 35 = .ok (.getfield 15, 3) := F_Tape_put_0.2.2.2.2.2.2.2.2.2.2.2.2.2.2.2.2.2.2.2.2.1
theorem d_Tape_put_38 : decode prog_10_method_3_code 38 = .ok (.iconst 1, 1) := F_Tape_put_0.2.2.2.2.2.2.2.2.2.2.2.2.2.2.2.2.2.2.2.2.2.1
theorem d_Tape_put_39 : decode prog_10_method_3_code 39 = .ok (.iadd, 1) := F_Tape_put_0.2.2.2.2.2.2.2.2.2.2.2.2.2.2.2.2.2.2.2.2.2.2.1
theorem d_Tape_put_40 : decode prog_10_method_3_code 40 = .ok (.putfield 15, 3) := F_Tape_put_0.2.2.2.2.2.2.2.2.2.2.2.2.2.2.2.2.2.2.2.2.2.2.2.1
theorem d_Tape_put_43 : decode prog_10_method_3_code 43 = .ok (.iinc 2 (-8), 3) := F_Tape_put_0.2.2.2.2.2.2.2.2.2.2.2.2.2.2.2.2.2.2.2.2.2.2.2.2.1
theorem d_Tape_put_46 : decode prog_10_method_3_code 46 = .ok (.goto (-43), 3) := F_Tape_put_0.2.2.2.2.2.2.2.2.2.2.2.2.2.2.2.2.2.2.2.2.2.2.2.2.2.1
theorem d_Tape_put_49 : decode prog_10_method_3_code 49 = .ok (.return_, 1) := F_Tape_put_0.2.2.2.2.2.2.2.2.2.2.2.2.2.2.2.2.2.2.2.2.2.2.2.2.2.2.1
theorem F_CM_text_0 : Jvm.Free.DS.Facts prog_1_method_3_code 0 [(.iload_n 1, 1), (.ifCond .lt (14), 3), (.iload_n 1, 1), (.aload_n 0, 1), (.getfield 24, 3), (.getfield 107, 3), (.if_icmp .le (6), 3), (.bipush (-2), 2), (.ireturn, 1), (.aload_n 0, 1), (.getfield 40, 3), (.iload_n 1, 1), (.aload_n 0, 1), (.getfield 18, 3), (.invokevirtual 111, 3), (.istore_n 2, 1), (.aload_n 0, 1), (.getfield 24, 3), (.iconst 0, 1), (.putfield 107, 3), (.iload_n 2, 1), (.ifCond .ne (5), 3), (.iconst (-1), 1), (.ireturn, 1), (.aload_n 0, 1), (.getfield 12, 3), (.astore_n 3, 1), (.aload_n 0, 1), (.aload_n 0, 1), (.getfield 18, 3), (.putfield 12, 3), (.aload_n 0, 1)] := Jvm.Free.DS.facts 0 _ (by decide +kernel) (by decide +kernel)
theorem d_CM_text_0 : decode prog_1_method_3_code 0 = .ok (.iload_n 1, 1) := F_CM_text_0.1
theorem d_CM_text_1 : decode prog_1_method_3_code 1 = .ok (.ifCond .lt (14), 3) := F_CM_text_0.2.1
theorem d_CM_text_4 : decode prog_1_method_3_code 4 = .ok (.iload_n 1, 1) := F_CM_text_0.2.2.1
theorem d_CM_text_5 : decode prog_1_method_3_code 5 = .ok (.aload_n 0, 1) := F_CM_text_0.2.2.2.1
theorem d_CM_text_6 : decode prog_1_method_3_code 6 = .ok (.getfield 24, 3) := F_CM_text_0.2.2.2.2.1
theorem d_CM_text_9 : decode prog_1_method_3_code 9 = .ok (.getfield 107, 3) := F_CM_text_0.2.2.2.2.2.1
theorem d_CM_text_12 : decode prog_1_method_3_code 12 = .ok (.if_icmp .le (6), 3) := F_CM_text_0.2.2.2.2.2.2.1
theorem d_CM_text_15 : decode prog_1_method_3_code 15 = .ok (.bipush (-2), 2) := F_CM_text_0.2.2.2.2.2.2.2.1
theorem d_CM_text_17 : decode prog_1_method_3_code 17 = .ok (.ireturn, 1) := F_CM_text_0.2.2.2.2.2.2.2.2.1
theorem d_CM_text_18 : decode prog_1_method_3_code 18 = .ok (.aload_n 0, 1) := F_CM_text_0.2.2.2.2.2.2.2.2.2.1
theorem d_CM_text_19 : decode prog_1_method_3_code 19 = .ok (.getfield 40, 3) := F_CM_text_0.2.2.2.2.2.2.2.2.2.2.1
theorem d_CM_text_22 : decode prog_1_method_3_code 22 = .ok (.iload_n 1, 1) := F_CM_text_0.2.2.2.2.2.2.2.2.2.2.2.1
theorem d_CM_text_23 : decode prog_1_method_3_code 23 = .ok (.aload_n 0, 1) := F_CM_text_0.2.2.2.2.2.2.2.2.2.2.2.2.1
theorem d_CM_text_24 : decode prog_1_method_3_code 24 = .ok (.getfield 18, 3) := F_CM_text_0.2.2.2.2.2.2.2.2.2.2.2.2.2.1
theorem d_CM_text_27 : decode prog_1_method_3_code 27 = .ok (.invokevirtual 111, 3) := F_CM_text_0.2.2.2.2.2.2.2.2.2.2.2.2.2.2.1
theorem d_CM_text_30 : decode prog_1_method_3_code 30 = .ok (.istore_n 2, 1) := F_CM_text_0.2.2.2.2.2.2.2.2.2.2.2.2.2.2.2.1
theorem d_CM_text_31 : decode prog_1_method_3_code 31 = .ok (.aload_n 0, 1) := F_CM_text_0.2.2.2.2.2.2.2.2.2.2.2.2.2.2.2.2.1
theorem d_CM_text_32 : decode prog_1_method_3_code 32 = .ok (.getfield 24, 3) := F_CM_text_0.2.2.2.2.2.2.2.2.2.2.2.2.2.2.2.2.2.1
theorem d_CM_text_35 : decode prog_1_method_3_code 35 = .ok (.iconst 0, 1) := F_CM_text_0.2.2.2.2.2.2.2.2.2.2.2.2.2.2.2.2.2.2.1
theorem d_CM_text_36 : decode prog_1_method_3_code 36 = .ok (.putfield 107, 3) := F_CM_text_0.2.2.2.2.2.2.2.2.2.2.2.2.2.2.2.2.2.2.2.1
theorem d_CM_text_39 : decode prog_1_method_3_code 39 = .ok (.iload_n 2, 1) := F_CM_text_0.2.2.2.2.2.2.2.2.2.2.2.2.2.2.2.2.2.2.2.2.1
theorem d_CM_text_40 : decode prog_1_method_3_code 40 = .ok (.ifCond .ne (5), 3) := F_CM_text_0.2.2.2.2.2.2.2.2.2.2.2.2.2.2.2.2.2.2.2.2.2.1
theorem d_CM_text_43 : decode prog_1_method_3_code 43 = .ok (.iconst (-1), 1) := F_CM_text_0.2.2.2.2.2.2.2.2.2.2.2.2.2.2.2.2.2.2.2.2.2.2.1
theorem d_CM_text_44 : decode prog_1_method_3_code 44 = .ok (.ireturn, 1) := F_CM_text_0.2.2.2.2.2.2.2.2.2.2.2.2.2.2.2.2.2.2.2.2.2.2.2.1
theorem d_CM_text_45 : decode prog_1_method_3_code 45 = .ok (.aload_n 0, 1) := F_CM_text_0.2.2.2.2.2.2.2.2.2.2.2.2.2.2.2.2.2.2.2.2.2.2.2.2.1
theorem d_CM_text_46 : decode prog_1_method_3_code 46 = .ok (.getfield 12, 3) := F_CM_text_0.2.2.2.2.2.2.2.2.2.2.2.2.2.2.2.2.2.2.2.2.2.2.2.2.2.1
theorem d_CM_text_49 : decode prog_1_method_3_code 49 = .ok (.astore_n 3, 1) := F_CM_text_0.2.2.2.2.2.2.2.2.2.2.2.2.2.2.2.2.2.2.2.2.2.2.2.2.2.2.1
theorem d_CM_text_50 : decode prog_1_method_3_code 50 = .ok (.aload_n 0, 1) := F_CM_text_0.2.2.2.2.2.2.2.2.2.2.2.2.2.2.2.2.2.2.2.2.2.2.2.2.2.2.2.1
theorem d_CM_text_51 : decode prog_1_method_3_code 51 = .ok (.aload_n 0, 1) := F_CM_text_0.2.2.2.2.2.2.2.2.2.2.2.2.2.2.2.2.2.2.2.2.2.2.2.2.2.2.2.2.1
theorem d_CM_text_52 : decode prog_1_method_3_code 52 = .ok (.getfield 18, 3) := F_CM_text_0.2.2.2.2.2.2.2.2.2.2.2.2.2.2.2.2.2.2.2.2.2.2.2.2.2.2.2.2.2.1
theorem d_CM_text_55 : decode prog_1_method_3_code 55 = .ok (.putfield 12, 3) := F_CM_text_0.2.2.2.2.2.2.2.2.2.2.2.2.2.2.2.2.2.2.2.2.2.2.2.2.2.2.2.2.2.2.1
theorem d_CM_text_58 : decode prog_1_method_3_code 58 = .ok (.aload_n 0, 1) := F_CM_text_0.2.2.2.2.2.2.2.2.2.2.2.2.2.2.2.2.2.2.2.2.2.2.2.2.2.2.2.2.2.2.2.1
theorem F_CM_text_59 : Jvm.Free.DS.Facts prog_1_method_3_code 59 [(.aload_n 3, 1), (.putfield 18, 3), (.aload_n 0, 1), (.getfield 47, 3), (.invokevirtual 115, 3), (.aload_n 0, 1), (.getfield 12, 3), (.getfield 118, 3), (.ireturn, 1)] := Jvm.Free.DS.facts 59 _ (by decide +kernel) (by decide +kernel)
theorem d_CM_text_59 : decode prog_1_method_3_code 59 = .ok (.aload_n 3, 1) := F_CM_text_59.1
theorem d_CM_text_60 : decode prog_1_method_3_code 60 = .ok (.putfield 18, 3) := F_CM_text_59.2.1
theorem d_CM_text_63 : decode prog_1_method_3_code 63 = .ok (.aload_n 0, 1) := F_CM_text_59.2.2.1
theorem d_CM_text_64 : decode prog_1_method_3_code 64 = .ok (.getfield 47, 3) := F_CM_text_59.2.2.2.1
theorem d_CM_text_67 : decode prog_1_method_3_code 67 = .ok (.invokevirtual 115, 3) := F_CM_text_59.2.2.2.2.1
theorem d_CM_text_70 : decode prog_1_method_3_code 70 = .ok (.aload_n 0, 1) := F_CM_text_59.2.2.2.2.2.1
theorem d_CM_text_71 : decode prog_1_method_3_code 71 = .ok (.getfield 12, 3) := F_CM_text_59.2.2.2.2.2.2.1
theorem d_CM_text_74 : decode prog_1_method_3_code 74 = .ok (.getfield 118, 3) := F_CM_text_59.2.2.2.2.2.2.2.1
theorem d_CM_text_77 : decode prog_1_method_3_code 77 = .ok (.ireturn, 1) := F_CM_text_59.2.2.2.2.2.2.2.2.1
theorem F_Reader_read_0 : Jvm.Free.DS.Facts prog_8_method_2_code 0 [(.aload_n 0, 1), (.aload_n 2, 1), (.putfield 37, 3), (.aload_n 0, 1), (.getfield 37, 3), (.invokevirtual 41, 3), (.aload_n 0, 1), (.iload_n 1, 1), (.aload_n 0, 1), (.getfield 29, 3), (.getfield 46, 3), (.invokestatic 51, 3), (.putfield 57, 3), (.aload_n 0, 1), (.iconst 0, 1), (.putfield 60, 3), (.aload_n 0, 1), (.iconst 0, 1), (.putfield 63, 3), (.aload_n 0, 1), (.iconst (-1), 1), (.putfield 25, 3), (.aload_n 0, 1), (.invokevirtual 66, 3), (.iconst 1, 1), (.istore_n 3, 1), (.iconst 0, 1), (.istore 4, 2), (.iload 4, 2), (.sipush (900), 3), (.if_icmp .ge (91), 3), (.iload_n 3, 1)] := Jvm.Free.DS.facts 0 _ (by decide +kernel) (by decide +kernel)
theorem d_Reader_read_0 : decode prog_8_method_2_code 0 = .ok (.aload_n 0, 1) := F_Reader_read_0.1
theorem d_Reader_read_1 : decode prog_8_method_2_code 1 = .ok (.aload_n 2, 1) := F_Reader_read_0.2.1
theorem d_Reader_read_2 : decode prog_8_method_2_code 2 = .ok (.putfield 37, 3) := F_Reader_read_0.2.2.1
theorem d_Reader_read_5 : decode prog_8_method_2_code 5 = .ok (.aload_n 0, 1) := F_Reader_read_0.2.2.2.1
theorem d_Reader_read_6 : decode prog_8_method_2_code 6 = .ok (.getfield 37, 3) := F_Reader_read_0.2.2.2.2.1
theorem d_Reader_read_9 : decode prog_8_method_2_code 9 = .ok (.invokevirtual 41, 3) := F_Reader_read_0.2.2.2.2.2.1
theorem d_Reader_read_12 : decode prog_8_method_2_code 12 = .ok (.aload_n 0, 1) := F_Reader_read_0.2.2.2.2.2.2.1
theorem d_Reader_read_13 : decode prog_8_method_2_code 13 = .ok (.iload_n 1, 1) := F_Reader_read_0.2.2.2.2.2.2.2.1
theorem d_Reader_read_14 : decode prog_8_method_2_code 14 = .ok (.aload_n 0, 1) := F_Reader_read_0.2.2.2.2.2.2.2.2.1
theorem d_Reader_read_15 : decode prog_8_method_2_code 15 = .ok (.getfield 29, 3) := F_Reader_read_0.2.2.2.2.2.2.2.2.2.1
theorem d_Reader_read_18 : decode prog_8_method_2_code 18 = .ok (.getfield 46, 3) := F_Reader_read_0.2.2.2.2.2.2.2.2.2.2.1
theorem d_Reader_read_21 : decode prog_8_method_2_code 21 = .ok (.invokestatic 51, 3) := F_Reader_read_0.2.2.2.2.2.2.2.2.2.2.2.1
theorem d_Reader_read_24 : decode prog_8_method_2_code 24 = .ok (.putfield 57, 3) := F_Reader_read_0.2.2.2.2.2.2.2.2.2.2.2.2.1
theorem d_Reader_read_27 : decode prog_8_method_2_code 27 = .ok (.aload_n 0, 1) := F_Reader_read_0.2.2.2.2.2.2.2.2.2.2.2.2.2.1
theorem d_Reader_read_28 : decode prog_8_method_2_code 28 = .ok (.iconst 0, 1) := F_Reader_read_0.2.2.2.2.2.2.2.2.2.2.2.2.2.2.1
theorem d_Reader_read_29 : decode prog_8_method_2_code 29 = .ok (.putfield 60, 3) := F_Reader_read_0.2.2.2.2.2.2.2.2.2.2.2.2.2.2.2.1
theorem d_Reader_read_32 : decode prog_8_method_2_code 32 = .ok (.aload_n 0, 1) := F_Reader_read_0.2.2.2.2.2.2.2.2.2.2.2.2.2.2.2.2.1
theorem d_Reader_read_33 : decode prog_8_method_2_code 33 = .ok (.iconst 0, 1) := F_Reader_read_0.2.2.2.2.2.2.2.2.2.2.2.2.2.2.2.2.2.1
theorem d_Reader_read_34 : decode prog_8_method_2_code 34 = .ok (.putfield 63, 3) := F_Reader_read_0.2.2.2.2.2.2.2.2.2.2.2.2.2.2.2.2.2.2.1
theorem d_Reader_read_37 : decode prog_8_method_2_code 37 = .ok (.aload_n 0, 1) := F_Reader_read_0.2.2.2.2.2.2.2.2.2.2.2.2.2.2.2.2.2.2.2.1
theorem d_Reader_read_38 : decode prog_8_method_2_code 38 = .ok (.iconst (-1), 1) := F_Reader_read_0.2.2.2.2.2.2.2.2.2.2.2.2.2.2.2.2.2.2.2.2.1
theorem d_Reader_read_39 : decode prog_8_method_2_code 39 = .ok (.putfield 25, 3) := F_Reader_read_0.2.2.2.2.2.2.2.2.2.2.2.2.2.2.2.2.2.2.2.2.2.1
theorem d_Reader_read_42 : decode prog_8_method_2_code 42 = .ok (.aload_n 0, 1) := F_Reader_read_0.2.2.2.2.2.2.2.2.2.2.2.2.2.2.2.2.2.2.2.2.2.2.1
theorem d_Reader_read_43 : decode prog_8_method_2_code 43 = .ok (.invokevirtual 66, 3) := F_Reader_read_0.2.2.2.2.2.2.2.2.2.2.2.2.2.2.2.2.2.2.2.2.2.2.2.1
theorem d_Reader_read_46 : decode prog_8_method_2_code 46 = .ok (.iconst 1, 1) := F_Reader_read_0.2.2.2.2.2.2.2.2.2.2.2.2.2.2.2.2.2.2.2.2.2.2.2.2.1
theorem d_Reader_read_47 : decode prog_8_method_2_code 47 = .ok (.istore_n 3, 1) := F_Reader_read_0.2.2.2.2.2.2.2.2.2.2.2.2.2.2.2.2.2.2.2.2.2.2.2.2.2.1
theorem d_Reader_read_48 : decode prog_8_method_2_code 48 = .ok (.iconst 0, 1) := F_Reader_read_0.2.2.2.2.2.2.2.2.2.2.2.2.2.2.2.2.2.2.2.2.2.2.2.2.2.2.1
theorem d_Reader_read_49 : decode prog_8_method_2_code 49 = .ok (.istore 4, 2) := F_Reader_read_0.2.2.2.2.2.2.2.2.2.2.2.2.2.2.2.2.2.2.2.2.2.2.2.2.2.2.2.1
theorem d_Reader_read_51 : decode prog_8_method_2_code 51 = .ok (.iload 4, 2) := F_Reader_read_0.2.2.2.2.2.2.2.2.2.2.2.2.2.2.2.2.2.2.2.2.2.2.2.2.2.2.2.2.1
theorem d_Reader_read_53 : decode prog_8_method_2_code 53 = .ok (.sipush (900), 3) := F_Reader_read_0.2.2.2.2.2.2.2.2.2.2.2.2.2.2.2.2.2.2.2.2.2.2.2.2.2.2.2.2.2.1
theorem d_Reader_read_56 : decode prog_8_method_2_code 56 = .ok (.if_icmp .ge (91), 3) := F_Reader_read_0.2.2.2.2.2.2.2.2.2.2.2.2.2.2.2.2.2.2.2.2.2.2.2.2.2.2.2.2.2.2.1
theorem d_Reader_read_59 : decode prog_8_method_2_code 59 = .ok (.iload_n 3, 1) := F_Reader_read_0.2.2.2.2.2.2.2.2.2.2.2.2.2.2.2.2.2.2.2.2.2.2.2.2.2.2.2.2.2.2.2.1
theorem F_Reader_read_60 : Jvm.Free.DS.Facts prog_8_method_2_code 60 [(.ifCond .eq (87), 3), (.aload_n 0, 1), (.getfield 69, 3), (.ifCond .eq (80), 3), (.aload_n 0, 1), (.ldc 72, 2), (.invokevirtual 73, 3), (.ifCond .eq (11), 3), (.aload_n 0, 1), (.invokevirtual 77, 3), (.istore_n 3, 1), (.goto (44), 3), (.aload_n 0, 1), (.sipush (9520), 3), (.invokevirtual 73, 3), (.ifCond .eq (11), 3), (.aload_n 0, 1), (.invokevirtual 81, 3), (.istore_n 3, 1), (.goto (26), 3), (.aload_n 0, 1), (.ldc 84, 2), (.invokevirtual 73, 3), (.ifCond .eq (11), 3), (.aload_n 0, 1), (.invokevirtual 85, 3), (.istore_n 3, 1), (.goto (9), 3), (.aload_n 0, 1), (.iconst 1, 1), (.invokevirtual 88, 3), (.istore_n 3, 1)] := Jvm.Free.DS.facts 60 _ (by decide +kernel) (by decide +kernel)
theorem d_Reader_read_60 : decode prog_8_method_2_code 60 = .ok (.ifCond .eq (87), 3) := F_Reader_read_60.1
theorem d_Reader_read_63 : decode prog_8_method_2_code 63 = .ok (.aload_n 0, 1) := F_Reader_read_60.2.1
theorem d_Reader_read_64 : decode prog_8_method_2_code 64 = .ok (.getfield 69, 3) := F_Reader_read_60.2.2.1
theorem d_Reader_read_67 : decode prog_8_method_2_code 67 = .ok (.ifCond .eq (80), 3) := F_Reader_read_60.2.2.2.1
theorem d_Reader_read_70 : decode prog_8_method_2_code 70 = .ok (.aload_n 0, 1) := F_Reader_read_60.2.2.2.2.1
theorem d_Reader_read_71 : decode prog_8_method_2_code 71 = .ok (.ldc 72, 2) := F_Reader_read_60.2.2.2.2.2.1
theorem d_Reader_read_73 : decode prog_8_method_2_code 73 = .ok (.invokevirtual 73, 3) := F_Reader_read_60.2.2.2.2.2.2.1
theorem d_Reader_read_76 : decode prog_8_method_2_code 76 = .ok (.ifCond .eq (11), 3) := F_Reader_read_60.2.2.2.2.2.2.2.1
theorem d_Reader_read_79 : decode prog_8_method_2_code 79 = .ok (.aload_n 0, 1) := F_Reader_read_60.2.2.2.2.2.2.2.2.1
theorem d_Reader_read_80 : decode prog_8_method_2_code 80 = .ok (.invokevirtual 77, 3) := F_Reader_read_60.2.2.2.2.2.2.2.2.2.1
theorem d_Reader_read_83 : decode prog_8_method_2_code 83 = .ok (.istore_n 3, 1) := F_Reader_read_60.2.2.2.2.2.2.2.2.2.2.1
theorem d_Reader_read_84 : decode prog_8_method_2_code 84 = .ok (.goto (44), 3) := F_Reader_read_60.2.2.2.2.2.2.2.2.2.2.2.1
theorem d_Reader_read_87 : decode prog_8_method_2_code 87 = .ok (.aload_n 0, 1) := F_Reader_read_60.2.2.2.2.2.2.2.2.2.2.2.2.1
theorem d_Reader_read_88 : decode prog_8_method_2_code 88 = .ok (.sipush (9520), 3) := F_Reader_read_60.2.2.2.2.2.2.2.2.2.2.2.2.2.1
theorem d_Reader_read_91 : decode prog_8_method_2_code 91 = .ok (.invokevirtual 73, 3) := F_Reader_read_60.2.2.2.2.2.2.2.2.2.2.2.2.2.2.1
theorem d_Reader_read_94 : decode prog_8_method_2_code 94 = .ok (.ifCond .eq (11), 3) := F_Reader_read_60.2.2.2.2.2.2.2.2.2.2.2.2.2.2.2.1
theorem d_Reader_read_97 : decode prog_8_method_2_code 97 = .ok (.aload_n 0, 1) := F_Reader_read_60.2.2.2.2.2.2.2.2.2.2.2.2.2.2.2.2.1
theorem d_Reader_read_98 : decode prog_8_method_2_code 98 = .ok (.invokevirtual 81, 3) := F_Reader_read_60.2.2.2.2.2.2.2.2.2.2.2.2.2.2.2.2.2.1
theorem d_Reader_read_101 : decode prog_8_method_2_code 101 = .ok (.istore_n 3, 1) := F_Reader_read_60.2.2.2.2.2.2.2.2.2.2.2.2.2.2.2.2.2.2.1
theorem d_Reader_read_102 : decode prog_8_method_2_code 102 = .ok (.goto (26), 3) := F_Reader_read_60.2.2.2.2.2.2.2.2.2.2.2.2.2.2.2.2.2.2.2.1
theorem d_Reader_read_105 : decode prog_8_method_2_code 105 = .ok (.aload_n 0, 1) := F_Reader_read_60.2.2.2.2.2.2.2.2.2.2.2.2.2.2.2.2.2.2.2.2.1
theorem d_Reader_read_106 : decode prog_8_method_2_code 106 = .ok (.ldc 84, 2) := F_Reader_read_60.2.2.2.2.2.2.2.2.2.2.2.2.2.2.2.2.2.2.2.2.2.1
theorem d_Reader_read_108 : decode prog_8_method_2_code 108 = .ok (.invokevirtual 73, 3) := F_Reader_read_60.2.2.2.2.2.2.2.2.2.2.2.2.2.2.2.2.2.2.2.2.2.2.1
theorem d_Reader_read_111 : decode prog_8_method_2_code 111 = .ok (.ifCond .eq (11), 3) := F_Reader_read_60.2.2.2.2.2.2.2.2.2.2.2.2.2.2.2.2.2.2.2.2.2.2.2.1
theorem d_Reader_read_114 : decode prog_8_method_2_code 114 = .ok (.aload_n 0, 1) := F_Reader_read_60.2.2.2.2.2.2.2.2.2.2.2.2.2.2.2.2.2.2.2.2.2.2.2.2.1
theorem d_Reader_read_115 : decode prog_8_method_2_code 115 = .ok (.invokevirtual 85, 3) := F_Reader_read_60.2.2.2.2.2.2.2.2.2.2.2.2.2.2.2.2.2.2.2.2.2.2.2.2.2.1
theorem d_Reader_read_118 : decode prog_8_method_2_code 118 = .ok (.istore_n 3, 1) := F_Reader_read_60.2.2.2.2.2.2.2.2.2.2.2.2.2.2.2.2.2.2.2.2.2.2.2.2.2.2.1
theorem d_Reader_read_119 : decode prog_8_method_2_code 119 = .ok (.goto (9), 3) := F_Reader_read_60.2.2.2.2.2.2.2.2.2.2.2.2.2.2.2.2.2.2.2.2.2.2.2.2.2.2.2.1
theorem d_Reader_read_122 : decode prog_8_method_2_code 122 = .ok (.aload_n 0, 1) := F_Reader_read_60.2.2.2.2.2.2.2.2.2.2.2.2.2.2.2.2.2.2.2.2.2.2.2.2.2.2.2.2.1
theorem d_Reader_read_123 : decode prog_8_method_2_code 123 = .ok (.iconst 1, 1) := F_Reader_read_60.2.2.2.2.2.2.2.2.2.2.2.2.2.2.2.2.2.2.2.2.2.2.2.2.2.2.2.2.2.1
theorem d_Reader_read_124 : decode prog_8_method_2_code 124 = .ok (.invokevirtual 88, 3) := F_Reader_read_60.2.2.2.2.2.2.2.2.2.2.2.2.2.2.2.2.2.2.2.2.2.2.2.2.2.2.2.2.2.2.1
theorem d_Reader_read_127 : decode prog_8_method_2_code 127 = .ok (.istore_n 3, 1) := F_Reader_read_60.2.2.2.2.2.2.2.2.2.2.2.2.2.2.2.2.2.2.2.2.2.2.2.2.2.2.2.2.2.2.2.1
theorem F_Reader_read_128 : Jvm.Free.DS.Facts prog_8_method_2_code 128 [(.aload_n 0, 1), (.getfield 37, 3), (.dup, 1), (.getfield 91, 3), (.iconst 1, 1), (.iadd, 1), (.putfield 91, 3), (.iinc 4 (1), 3), (.goto (-93), 3), (.iload_n 3, 1), (.ireturn, 1)] := Jvm.Free.DS.facts 128 _ (by decide +kernel) (by decide +kernel)
theorem d_Reader_read_128 : decode prog_8_method_2_code 128 = .ok (.aload_n 0, 1) := F_Reader_read_128.1
theorem d_Reader_read_129 : decode prog_8_method_2_code 129 = .ok (.getfield 37, 3) := F_Reader_read_128.2.1
theorem d_Reader_read_132 : decode prog_8_method_2_code 132 = .ok (.dup, 1) := F_Reader_read_128.2.2.1
theorem d_Reader_read_133 : decode prog_8_method_2_code 133 = .ok (.getfield 91, 3) := F_Reader_read_128.2.2.2.1
theorem d_Reader_read_136 : decode prog_8_method_2_code 136 = .ok (.iconst 1, 1) := F_Reader_read_128.2.2.2.2.1
theorem d_Reader_read_137 : decode prog_8_method_2_code 137 = .ok (.iadd, 1) := F_Reader_read_128.2.2.2.2.2.1
theorem d_Reader_read_138 : decode prog_8_method_2_code 138 = .ok (.putfield 91, 3) := F_Reader_read_128.2.2.2.2.2.2.1
theorem d_Reader_read_141 : decode prog_8_method_2_code 141 = .ok (.iinc 4 (1), 3) := F_Reader_read_128.2.2.2.2.2.2.2.1
theorem d_Reader_read_144 : decode prog_8_method_2_code 144 = .ok (.goto (-93), 3) := F_Reader_read_128.2.2.2.2.2.2.2.2.1
theorem d_Reader_read_147 : decode prog_8_method_2_code 147 = .ok (.iload_n 3, 1) := F_Reader_read_128.2.2.2.2.2.2.2.2.2.1
theorem d_Reader_read_148 : decode prog_8_method_2_code 148 = .ok (.ireturn, 1) := F_Reader_read_128.2.2.2.2.2.2.2.2.2.2.1
theorem F_Plane_clear_0 : Jvm.Free.DS.Facts prog_6_method_2_code 0 [(.aload_n 0, 1), (.iconst 0, 1), (.putfield 26, 3), (.aload_n 0, 1), (.iconst 0, 1), (.putfield 30, 3), (.aload_n 0, 1), (.iconst 0, 1), (.putfield 33, 3), (.aload_n 0, 1), (.iconst 0, 1), (.putfield 36, 3), (.return_, 1)] := Jvm.Free.DS.facts 0 _ (by decide +kernel) (by decide +kernel)
theorem d_Plane_clear_0 : decode prog_6_method_2_code 0 = .ok (.aload_n 0, 1) := F_Plane_clear_0.1
theorem d_Plane_clear_1 : decode prog_6_method_2_code 1 = .ok (.iconst 0, 1) := F_Plane_clear_0.2.1
theorem d_Plane_clear_2 : decode prog_6_method_2_code 2 = .ok (.putfield 26, 3) := F_Plane_clear_0.2.2.1
theorem d_Plane_clear_5 : decode prog_6_method_2_code 5 = .ok (.aload_n 0, 1) := F_Plane_clear_0.2.2.2.1
theorem d_Plane_clear_6 : decode prog_6_method_2_code 6 = .ok (.iconst 0, 1) := F_Plane_clear_0.2.2.2.2.1
theorem d_Plane_clear_7 : decode prog_6_method_2_code 7 = .ok (.putfield 30, 3) := F_Plane_clear_0.2.2.2.2.2.1
theorem d_Plane_clear_10 : decode prog_6_method_2_code 10 = .ok (.aload_n 0, 1) := F_Plane_clear_0.2.2.2.2.2.2.1
theorem d_Plane_clear_11 : decode prog_6_method_2_code 11 = .ok (.iconst 0, 1) := F_Plane_clear_0.2.2.2.2.2.2.2.1
theorem d_Plane_clear_12 : decode prog_6_method_2_code 12 = .ok (.putfield 33, 3) := F_Plane_clear_0.2.2.2.2.2.2.2.2.1
theorem d_Plane_clear_15 : decode prog_6_method_2_code 15 = .ok (.aload_n 0, 1) := F_Plane_clear_0.2.2.2.2.2.2.2.2.2.1
theorem d_Plane_clear_16 : decode prog_6_method_2_code 16 = .ok (.iconst 0, 1) := F_Plane_clear_0.2.2.2.2.2.2.2.2.2.2.1
theorem d_Plane_clear_17 : decode prog_6_method_2_code 17 = .ok (.putfield 36, 3) := F_Plane_clear_0.2.2.2.2.2.2.2.2.2.2.2.1
theorem d_Plane_clear_20 : decode prog_6_method_2_code 20 = .ok (.return_, 1) := F_Plane_clear_0.2.2.2.2.2.2.2.2.2.2.2.2.1
theorem F_Reader_next_0 : Jvm.Free.DS.Facts prog_8_method_14_code 0 [(.aload_n 0, 1), (.getfield 60, 3), (.aload_n 0, 1), (.getfield 57, 3), (.if_icmp .ge (34), 3), (.aload_n 0, 1), (.getfield 29, 3), (.getfield 173, 3), (.aload_n 0, 1), (.getfield 60, 3), (.iaload, 1), (.invokestatic 176, 3), (.ifCond .eq (16), 3), (.aload_n 0, 1), (.dup, 1), (.getfield 60, 3), (.iconst 1, 1), (.iadd, 1), (.putfield 60, 3), (.goto (-39), 3), (.aload_n 0, 1), (.aload_n 0, 1), (.getfield 60, 3), (.putfield 167, 3), (.aload_n 0, 1), (.iconst 0, 1), (.putfield 164, 3), (.aload_n 0, 1), (.getfield 60, 3), (.aload_n 0, 1), (.getfield 57, 3), (.if_icmp .lt (11), 3)] := Jvm.Free.DS.facts 0 _ (by decide +kernel) (by decide +kernel)
theorem d_Reader_next_0 : decode prog_8_method_14_code 0 = .ok (.aload_n 0, 1) := F_Reader_next_0.1
theorem d_Reader_next_1 : decode prog_8_method_14_code 1 = .ok (.getfield 60, 3) := F_Reader_next_0.2.1
theorem d_Reader_next_4 : decode prog_8_method_14_code 4 = .ok (.aload_n 0, 1) := F_Reader_next_0.2.2.1
theorem d_Reader_next_5 : decode prog_8_method_14_code 5 = .ok (.getfield 57, 3) := F_Reader_next_0.2.2.2.1
theorem d_Reader_next_8 : decode prog_8_method_14_code 8 = .ok (.if_icmp .ge (34), 3) := F_Reader_next_0.2.2.2.2.1
theorem d_Reader_next_11 : decode prog_8_method_14_code 11 = .ok (.aload_n 0, 1) := F_Reader_next_0.2.2.2.2.2.1
theorem d_Reader_next_12 : decode prog_8_method_14_code 12 = .ok (.getfield 29, 3) := F_Reader_next_0.2.2.2.2.2.2.1
theorem d_Reader_next_15 : decode prog_8_method_14_code 15 = .ok (.getfield 173, 3) := F_Reader_next_0.2.2.2.2.2.2.2.1
theorem d_Reader_next_18 : decode prog_8_method_14_code 18 = .ok (.aload_n 0, 1) := F_Reader_next_0.2.2.2.2.2.2.2.2.1
theorem d_Reader_next_19 : decode prog_8_method_14_code 19 = .ok (.getfield 60, 3) := F_Reader_next_0.2.2.2.2.2.2.2.2.2.1
theorem d_Reader_next_22 : decode prog_8_method_14_code 22 = .ok (.iaload, 1) := F_Reader_next_0.2.2.2.2.2.2.2.2.2.2.1
theorem d_Reader_next_23 : decode prog_8_method_14_code 23 = .ok (.invokestatic 176, 3) := F_Reader_next_0.2.2.2.2.2.2.2.2.2.2.2.1
theorem d_Reader_next_26 : decode prog_8_method_14_code 26 = .ok (.ifCond .eq (16), 3) := F_Reader_next_0.2.2.2.2.2.2.2.2.2.2.2.2.1
theorem d_Reader_next_29 : decode prog_8_method_14_code 29 = .ok (.aload_n 0, 1) := F_Reader_next_0.2.2.2.2.2.2.2.2.2.2.2.2.2.1
theorem d_Reader_next_30 : decode prog_8_method_14_code 30 = .ok (.dup, 1) := F_Reader_next_0.2.2.2.2.2.2.2.2.2.2.2.2.2.2.1
theorem d_Reader_next_31 : decode prog_8_method_14_code 31 = .ok (.getfield 60, 3) := F_Reader_next_0.2.2.2.2.2.2.2.2.2.2.2.2.2.2.2.1
theorem d_Reader_next_34 : decode prog_8_method_14_code 34 = .ok (.iconst 1, 1) := F_Reader_next_0.2.2.2.2.2.2.2.2.2.2.2.2.2.2.2.2.1
theorem d_Reader_next_35 : decode prog_8_method_14_code 35 = .ok (.iadd, 1) := F_Reader_next_0.2.2.2.2.2.2.2.2.2.2.2.2.2.2.2.2.2.1
theorem d_Reader_next_36 : decode prog_8_method_14_code 36 = .ok (.putfield 60, 3) := F_Reader_next_0.2.2.2.2.2.2.2.2.2.2.2.2.2.2.2.2.2.2.1
theorem d_Reader_next_39 : decode prog_8_method_14_code 39 = .ok (.goto (-39), 3) := F_Reader_next_0.2.2.2.2.2.2.2.2.2.2.2.2.2.2.2.2.2.2.2.1
theorem d_Reader_next_42 : decode prog_8_method_14_code 42 = .ok (.aload_n 0, 1) := F_Reader_next_0.2.2.2.2.2.2.2.2.2.2.2.2.2.2.2.2.2.2.2.2.1
theorem d_Reader_next_43 : decode prog_8_method_14_code 43 = .ok (.aload_n 0, 1) := F_Reader_next_0.2.2.2.2.2.2.2.2.2.2.2.2.2.2.2.2.2.2.2.2.2.1
theorem d_Reader_next_44 : decode prog_8_method_14_code 44 = .ok (.getfield 60, 3) := F_Reader_next_0.2.2.2.2.2.2.2.2.2.2.2.2.2.2.2.2.2.2.2.2.2.2.1
theorem d_Reader_next_47 : decode prog_8_method_14_code 47 = .ok (.putfield 167, 3) := F_Reader_next_0.2.2.2.2.2.2.2.2.2.2.2.2.2.2.2.2.2.2.2.2.2.2.2.1
theorem d_Reader_next_50 : decode prog_8_method_14_code 50 = .ok (.aload_n 0, 1) := F_Reader_next_0.2.2.2.2.2.2.2.2.2.2.2.2.2.2.2.2.2.2.2.2.2.2.2.2.1
theorem d_Reader_next_51 : decode prog_8_method_14_code 51 = .ok (.iconst 0, 1) := F_Reader_next_0.2.2.2.2.2.2.2.2.2.2.2.2.2.2.2.2.2.2.2.2.2.2.2.2.2.1
theorem d_Reader_next_52 : decode prog_8_method_14_code 52 = .ok (.putfield 164, 3) := F_Reader_next_0.2.2.2.2.2.2.2.2.2.2.2.2.2.2.2.2.2.2.2.2.2.2.2.2.2.2.1
theorem d_Reader_next_55 : decode prog_8_method_14_code 55 = .ok (.aload_n 0, 1) := F_Reader_next_0.2.2.2.2.2.2.2.2.2.2.2.2.2.2.2.2.2.2.2.2.2.2.2.2.2.2.2.1
theorem d_Reader_next_56 : decode prog_8_method_14_code 56 = .ok (.getfield 60, 3) := F_Reader_next_0.2.2.2.2.2.2.2.2.2.2.2.2.2.2.2.2.2.2.2.2.2.2.2.2.2.2.2.2.1
theorem d_Reader_next_59 : decode prog_8_method_14_code 59 = .ok (.aload_n 0, 1) := F_Reader_next_0.2.2.2.2.2.2.2.2.2.2.2.2.2.2.2.2.2.2.2.2.2.2.2.2.2.2.2.2.2.1
theorem d_Reader_next_60 : decode prog_8_method_14_code 60 = .ok (.getfield 57, 3) := F_Reader_next_0.2.2.2.2.2.2.2.2.2.2.2.2.2.2.2.2.2.2.2.2.2.2.2.2.2.2.2.2.2.2.1
theorem d_Reader_next_63 : decode prog_8_method_14_code 63 = .ok (.if_icmp .lt (11), 3) := F_Reader_next_0.2.2.2.2.2.2.2.2.2.2.2.2.2.2.2.2.2.2.2.2.2.2.2.2.2.2.2.2.2.2.2.1
theorem F_Reader_next_66 : Jvm.Free.DS.Facts prog_8_method_14_code 66 [(.aload_n 0, 1), (.iconst 0, 1), (.putfield 69, 3), (.goto (69), 3), (.aload_n 0, 1), (.getfield 29, 3), (.getfield 173, 3), (.aload_n 0, 1), (.getfield 60, 3), (.iaload, 1), (.invokestatic 179, 3), (.ifCond .eq (10), 3), (.aload_n 0, 1), (.invokevirtual 182, 3), (.goto (44), 3), (.aload_n 0, 1), (.getfield 29, 3), (.getfield 173, 3), (.aload_n 0, 1), (.getfield 60, 3), (.iaload, 1), (.invokestatic 185, 3), (.ifCond .eq (10), 3), (.aload_n 0, 1), (.invokevirtual 188, 3), (.goto (19), 3), (.aload_n 0, 1), (.aload_n 0, 1), (.getfield 29, 3), (.getfield 173, 3), (.aload_n 0, 1), (.getfield 60, 3)] := Jvm.Free.DS.facts 66 _ (by decide +kernel) (by decide +kernel)
theorem d_Reader_next_66 : decode prog_8_method_14_code 66 = .ok (.aload_n 0, 1) := F_Reader_next_66.1
theorem d_Reader_next_67 : decode prog_8_method_14_code 67 = .ok (.iconst 0, 1) := F_Reader_next_66.2.1
theorem d_Reader_next_68 : decode prog_8_method_14_code 68 = .ok (.putfield 69, 3) := F_Reader_next_66.2.2.1
theorem d_Reader_next_71 : decode prog_8_method_14_code 71 = .ok (.goto (69), 3) := F_Reader_next_66.2.2.2.1
theorem d_Reader_next_74 : decode prog_8_method_14_code 74 = .ok (.aload_n 0, 1) := F_Reader_next_66.2.2.2.2.1
theorem d_Reader_next_75 : decode prog_8_method_14_code 75 = .ok (.getfield 29, 3) := F_Reader_next_66.2.2.2.2.2.1
theorem d_Reader_next_78 : decode prog_8_method_14_code 78 = .ok (.getfield 173, 3) := F_Reader_next_66.2.2.2.2.2.2.1
theorem d_Reader_next_81 : decode prog_8_method_14_code 81 = .ok (.aload_n 0, 1) := F_Reader_next_66.2.2.2.2.2.2.2.1
theorem d_Reader_next_82 : decode prog_8_method_14_code 82 = .ok (.getfield 60, 3) := F_Reader_next_66.2.2.2.2.2.2.2.2.1
theorem d_Reader_next_85 : decode prog_8_method_14_code 85 = .ok (.iaload, 1) := F_Reader_next_66.2.2.2.2.2.2.2.2.2.1
theorem d_Reader_next_86 : decode prog_8_method_14_code 86 = .ok (.invokestatic 179, 3) := F_Reader_next_66.2.2.2.2.2.2.2.2.2.2.1
theorem d_Reader_next_89 : decode prog_8_method_14_code 89 = .ok (.ifCond .eq (10), 3) := F_Reader_next_66.2.2.2.2.2.2.2.2.2.2.2.1
theorem d_Reader_next_92 : decode prog_8_method_14_code 92 = .ok (.aload_n 0, 1) := F_Reader_next_66.2.2.2.2.2.2.2.2.2.2.2.2.1
theorem d_Reader_next_93 : decode prog_8_method_14_code 93 = .ok (.invokevirtual 182, 3) := F_Reader_next_66.2.2.2.2.2.2.2.2.2.2.2.2.2.1
theorem d_Reader_next_96 : decode prog_8_method_14_code 96 = .ok (.goto (44), 3) := F_Reader_next_66.2.2.2.2.2.2.2.2.2.2.2.2.2.2.1
theorem d_Reader_next_99 : decode prog_8_method_14_code 99 = .ok (.aload_n 0, 1) := F_Reader_next_66.2.2.2.2.2.2.2.2.2.2.2.2.2.2.2.1
theorem d_Reader_next_100 : decode prog_8_method_14_code 100 = .ok (.getfield 29, 3) := F_Reader_next_66.2.2.2.2.2.2.2.2.2.2.2.2.2.2.2.2.1
theorem d_Reader_next_103 : decode prog_8_method_14_code 103 = .ok (.getfield 173, 3) := F_Reader_next_66.2.2.2.2.2.2.2.2.2.2.2.2.2.2.2.2.2.1
theorem d_Reader_next_106 : decode prog_8_method_14_code 106 = .ok (.aload_n 0, 1) := F_Reader_next_66.2.2.2.2.2.2.2.2.2.2.2.2.2.2.2.2.2.2.1
theorem d_Reader_next_107 : decode prog_8_method_14_code 107 = .ok (.getfield 60, 3) := F_Reader_next_66.2.2.2.2.2.2.2.2.2.2.2.2.2.2.2.2.2.2.2.1
theorem d_Reader_next_110 : decode prog_8_method_14_code 110 = .ok (.iaload, 1) := F_Reader_next_66.2.2.2.2.2.2.2.2.2.2.2.2.2.2.2.2.2.2.2.2.1
theorem d_Reader_next_111 : decode prog_8_method_14_code 111 = .ok (.invokestatic 185, 3) := F_Reader_next_66.2.2.2.2.2.2.2.2.2.2.2.2.2.2.2.2.2.2.2.2.2.1
theorem d_Reader_next_114 : decode prog_8_method_14_code 114 = .ok (.ifCond .eq (10), 3) := F_Reader_next_66.2.2.2.2.2.2.2.2.2.2.2.2.2.2.2.2.2.2.2.2.2.2.1
theorem d_Reader_next_117 : decode prog_8_method_14_code 117 = .ok (.aload_n 0, 1) := F_Reader_next_66.2.2.2.2.2.2.2.2.2.2.2.2.2.2.2.2.2.2.2.2.2.2.2.1
theorem d_Reader_next_118 : decode prog_8_method_14_code 118 = .ok (.invokevirtual 188, 3) := F_Reader_next_66.2.2.2.2.2.2.2.2.2.2.2.2.2.2.2.2.2.2.2.2.2.2.2.2.1
theorem d_Reader_next_121 : decode prog_8_method_14_code 121 = .ok (.goto (19), 3) := F_Reader_next_66.2.2.2.2.2.2.2.2.2.2.2.2.2.2.2.2.2.2.2.2.2.2.2.2.2.1
theorem d_Reader_next_124 : decode prog_8_method_14_code 124 = .ok (.aload_n 0, 1) := F_Reader_next_66.2.2.2.2.2.2.2.2.2.2.2.2.2.2.2.2.2.2.2.2.2.2.2.2.2.2.1
theorem d_Reader_next_125 : decode prog_8_method_14_code 125 = .ok (.aload_n 0, 1) := F_Reader_next_66.2.2.2.2.2.2.2.2.2.2.2.2.2.2.2.2.2.2.2.2.2.2.2.2.2.2.2.1
theorem d_Reader_next_126 : decode prog_8_method_14_code 126 = .ok (.getfield 29, 3) := F_Reader_next_66.2.2.2.2.2.2.2.2.2.2.2.2.2.2.2.2.2.2.2.2.2.2.2.2.2.2.2.2.1
theorem d_Reader_next_129 : decode prog_8_method_14_code 129 = .ok (.getfield 173, 3) := F_Reader_next_66.2.2.2.2.2.2.2.2.2.2.2.2.2.2.2.2.2.2.2.2.2.2.2.2.2.2.2.2.2.1
theorem d_Reader_next_132 : decode prog_8_method_14_code 132 = .ok (.aload_n 0, 1) := F_Reader_next_66.2.2.2.2.2.2.2.2.2.2.2.2.2.2.2.2.2.2.2.2.2.2.2.2.2.2.2.2.2.2.1
theorem d_Reader_next_133 : decode prog_8_method_14_code 133 = .ok (.getfield 60, 3) := F_Reader_next_66.2.2.2.2.2.2.2.2.2.2.2.2.2.2.2.2.2.2.2.2.2.2.2.2.2.2.2.2.2.2.2.1
theorem F_Reader_next_136 : Jvm.Free.DS.Facts prog_8_method_14_code 136 [(.iaload, 1), (.invokevirtual 191, 3), (.return_, 1)] := Jvm.Free.DS.facts 136 _ (by decide +kernel) (by decide +kernel)
theorem d_Reader_next_136 : decode prog_8_method_14_code 136 = .ok (.iaload, 1) := F_Reader_next_136.1
theorem d_Reader_next_137 : decode prog_8_method_14_code 137 = .ok (.invokevirtual 191, 3) := F_Reader_next_136.2.1
theorem d_Reader_next_140 : decode prog_8_method_14_code 140 = .ok (.return_, 1) := F_Reader_next_136.2.2.1
theorem F_Reader_isBlank_0 : Jvm.Free.DS.Facts prog_8_method_18_code 0 [(.iload_n 0, 1), (.bipush (10), 2), (.if_icmp .eq (9), 3), (.iload_n 0, 1), (.bipush (32), 2), (.if_icmp .ne (7), 3), (.iconst 1, 1), (.goto (4), 3), (.iconst 0, 1), (.ireturn, 1)] := Jvm.Free.DS.facts 0 _ (by decide +kernel) (by decide +kernel)
theorem d_Reader_isBlank_0 : decode prog_8_method_18_code 0 = .ok (.iload_n 0, 1) := F_Reader_isBlank_0.1
theorem d_Reader_isBlank_1 : decode prog_8_method_18_code 1 = .ok (.bipush (10), 2) := F_Reader_isBlank_0.2.1
theorem d_Reader_isBlank_3 : decode prog_8_method_18_code 3 = .ok (.if_icmp .eq (9), 3) := F_Reader_isBlank_0.2.2.1
theorem d_Reader_isBlank_6 : decode prog_8_method_18_code 6 = .ok (.iload_n 0, 1) := F_Reader_isBlank_0.2.2.2.1
theorem d_Reader_isBlank_7 : decode prog_8_method_18_code 7 = .ok (.bipush (32), 2) := F_Reader_isBlank_0.2.2.2.2.1
theorem d_Reader_isBlank_9 : decode prog_8_method_18_code 9 = .ok (.if_icmp .ne (7), 3) := F_Reader_isBlank_0.2.2.2.2.2.1
theorem d_Reader_isBlank_12 : decode prog_8_method_18_code 12 = .ok (.iconst 1, 1) := F_Reader_isBlank_0.2.2.2.2.2.2.1
theorem d_Reader_isBlank_13 : decode prog_8_method_18_code 13 = .ok (.goto (4), 3) := F_Reader_isBlank_0.2.2.2.2.2.2.2.1
theorem d_Reader_isBlank_16 : decode prog_8_method_18_code 16 = .ok (.iconst 0, 1) := F_Reader_isBlank_0.2.2.2.2.2.2.2.2.1
theorem d_Reader_isBlank_17 : decode prog_8_method_18_code 17 = .ok (.ireturn, 1) := F_Reader_isBlank_0.2.2.2.2.2.2.2.2.2.1
theorem F_Reader_isLetter_0 : Jvm.Free.DS.Facts prog_8_method_19_code 0 [(.iload_n 0, 1), (.bipush (97), 2), (.if_icmp .lt (13), 3), (.iload_n 0, 1), (.bipush (122), 2), (.if_icmp .gt (7), 3), (.iconst 1, 1), (.goto (4), 3), (.iconst 0, 1), (.ireturn, 1)] := Jvm.Free.DS.facts 0 _ (by decide +kernel) (by decide +kernel)
theorem d_Reader_isLetter_0 : decode prog_8_method_19_code 0 = .ok (.iload_n 0, 1) := F_Reader_isLetter_0.1
theorem d_Reader_isLetter_1 : decode prog_8_method_19_code 1 = .ok (.bipush (97), 2) := F_Reader_isLetter_0.2.1
theorem d_Reader_isLetter_3 : decode prog_8_method_19_code 3 = .ok (.if_icmp .lt (13), 3) := F_Reader_isLetter_0.2.2.1
theorem d_Reader_isLetter_6 : decode prog_8_method_19_code 6 = .ok (.iload_n 0, 1) := F_Reader_isLetter_0.2.2.2.1
theorem d_Reader_isLetter_7 : decode prog_8_method_19_code 7 = .ok (.bipush (122), 2) := F_Reader_isLetter_0.2.2.2.2.1
theorem d_Reader_isLetter_9 : decode prog_8_method_19_code 9 = .ok (.if_icmp .gt (7), 3) := F_Reader_isLetter_0.2.2.2.2.2.1
theorem d_Reader_isLetter_12 : decode prog_8_method_19_code 12 = .ok (.iconst 1, 1) := F_Reader_isLetter_0.2.2.2.2.2.2.1
theorem d_Reader_isLetter_13 : decode prog_8_method_19_code 13 = .ok (.goto (4), 3) := F_Reader_isLetter_0.2.2.2.2.2.2.2.1
theorem d_Reader_isLetter_16 : decode prog_8_method_19_code 16 = .ok (.iconst 0, 1) := F_Reader_isLetter_0.2.2.2.2.2.2.2.2.1
theorem d_Reader_isLetter_17 : decode prog_8_method_19_code 17 = .ok (.ireturn, 1) := F_Reader_isLetter_0.2.2.2.2.2.2.2.2.2.1
theorem F_Reader_nextWord_0 : Jvm.Free.DS.Facts prog_8_method_15_code 0 [(.iconst 0, 1), (.istore_n 1, 1), (.aload_n 0, 1), (.getfield 60, 3), (.aload_n 0, 1), (.getfield 57, 3), (.if_icmp .ge (72), 3), (.aload_n 0, 1), (.getfield 29, 3), (.getfield 173, 3), (.aload_n 0, 1), (.getfield 60, 3), (.iaload, 1), (.invokestatic 179, 3), (.ifCond .eq (54), 3), (.iload_n 1, 1), (.bipush (6), 2), (.if_icmp .ge (32), 3), (.aload_n 0, 1), (.bipush (27), 2), (.aload_n 0, 1), (.getfield 164, 3), (.imul, 1), (.aload_n 0, 1), (.getfield 29, 3), (.getfield 173, 3), (.aload_n 0, 1), (.getfield 60, 3), (.iaload, 1), (.iadd, 1), (.bipush (97), 2), (.isub, 1)] := Jvm.Free.DS.facts 0 _ (by decide +kernel) (by decide +kernel)
theorem d_Reader_nextWord_0 : decode prog_8_method_15_code 0 = .ok (.iconst 0, 1) := F_Reader_nextWord_0.1
theorem d_Reader_nextWord_1 : decode prog_8_method_15_code 1 = .ok (.istore_n 1, 1) := F_Reader_nextWord_0.2.1
theorem d_Reader_nextWord_2 : decode prog_8_method_15_code 2 = .ok (.aload_n 0, 1) := F_Reader_nextWord_0.2.2.1
theorem d_Reader_nextWord_3 : decode prog_8_method_15_code 3 = .ok (.getfield 60, 3) := F_Reader_nextWord_0.2.2.2.1
theorem d_Reader_nextWord_6 : decode prog_8_method_15_code 6 = .ok (.aload_n 0, 1) := F_Reader_nextWord_0.2.2.2.2.1
theorem d_Reader_nextWord_7 : decode prog_8_method_15_code 7 = .ok (.getfield 57, 3) := F_Reader_nextWord_0.2.2.2.2.2.1
theorem d_Reader_nextWord_10 : decode prog_8_method_15_code 10 = .ok (.if_icmp .ge (72), 3) := F_Reader_nextWord_0.2.2.2.2.2.2.1
theorem d_Reader_nextWord_13 : decode prog_8_method_15_code 13 = .ok (.aload_n 0, 1) := F_Reader_nextWord_0.2.2.2.2.2.2.2.1
theorem d_Reader_nextWord_14 : decode prog_8_method_15_code 14 = .ok (.getfield 29, 3) := F_Reader_nextWord_0.2.2.2.2.2.2.2.2.1
theorem d_Reader_nextWord_17 : decode prog_8_method_15_code 17 = .ok (.getfield 173, 3) := F_Reader_nextWord_0.2.2.2.2.2.2.2.2.2.1
theorem d_Reader_nextWord_20 : decode prog_8_method_15_code 20 = .ok (.aload_n 0, 1) := F_Reader_nextWord_0.2.2.2.2.2.2.2.2.2.2.1
theorem d_Reader_nextWord_21 : decode prog_8_method_15_code 21 = .ok (.getfield 60, 3) := F_Reader_nextWord_0.2.2.2.2.2.2.2.2.2.2.2.1
theorem d_Reader_nextWord_24 : decode prog_8_method_15_code 24 = .ok (.iaload, 1) := F_Reader_nextWord_0.2.2.2.2.2.2.2.2.2.2.2.2.1
theorem d_Reader_nextWord_25 : decode prog_8_method_15_code 25 = .ok (.invokestatic 179, 3) := F_Reader_nextWord_0.2.2.2.2.2.2.2.2.2.2.2.2.2.1
theorem d_Reader_nextWord_28 : decode prog_8_method_15_code 28 = .ok (.ifCond .eq (54), 3) := F_Reader_nextWord_0.2.2.2.2.2.2.2.2.2.2.2.2.2.2.1
theorem d_Reader_nextWord_31 : decode prog_8_method_15_code 31 = .ok (.iload_n 1, 1) := F_Reader_nextWord_0.2.2.2.2.2.2.2.2.2.2.2.2.2.2.2.1
theorem d_Reader_nextWord_32 : decode prog_8_method_15_code 32 = .ok (.bipush (6), 2) := F_Reader_nextWord_0.2.2.2.2.2.2.2.2.2.2.2.2.2.2.2.2.1
theorem d_Reader_nextWord_34 : decode prog_8_method_15_code 34 = .ok (.if_icmp .ge (32), 3) := F_Reader_nextWord_0.2.2.2.2.2.2.2.2.2.2.2.2.2.2.2.2.2.1
theorem d_Reader_nextWord_37 : decode prog_8_method_15_code 37 = .ok (.aload_n 0, 1) := F_Reader_nextWord_0.2.2.2.2.2.2.2.2.2.2.2.2.2.2.2.2.2.2.1
theorem d_Reader_nextWord_38 : decode prog_8_method_15_code 38 = .ok (.bipush (27), 2) := F_Reader_nextWord_0.2.2.2.2.2.2.2.2.2.2.2.2.2.2.2.2.2.2.2.1
theorem d_Reader_nextWord_40 : decode prog_8_method_15_code 40 = .ok (.aload_n 0, 1) := F_Reader_nextWord_0.2.2.2.2.2.2.2.2.2.2.2.2.2.2.2.2.2.2.2.2.1
theorem d_Reader_nextWord_41 : decode prog_8_method_15_code 41 = .ok (.getfield 164, 3) := F_Reader_nextWord_0.2.2.2.2.2.2.2.2.2.2.2.2.2.2.2.2.2.2.2.2.2.1
theorem d_Reader_nextWord_44 : decode prog_8_method_15_code 44 = .ok (.imul, 1) := F_Reader_nextWord_0.2.2.2.2.2.2.2.2.2.2.2.2.2.2.2.2.2.2.2.2.2.2.1
theorem d_Reader_nextWord_45 : decode prog_8_method_15_code 45 = .ok (.aload_n 0, 1) := F_Reader_nextWord_0.2.2.2.2.2.2.2.2.2.2.2.2.2.2.2.2.2.2.2.2.2.2.2.1
theorem d_Reader_nextWord_46 : decode prog_8_method_15_code 46 = .ok (.getfield 29, 3) := F_Reader_nextWord_0.2.2.2.2.2.2.2.2.2.2.2.2.2.2.2.2.2.2.2.2.2.2.2.2.1
theorem d_Reader_nextWord_49 : decode prog_8_method_15_code 49 = .ok (.getfield 173, 3) := F_Reader_nextWord_0.2.2.2.2.2.2.2.2.2.2.2.2.2.2.2.2.2.2.2.2.2.2.2.2.2.1
theorem d_Reader_nextWord_52 : decode prog_8_method_15_code 52 = .ok (.aload_n 0, 1) := F_Reader_nextWord_0.2.2.2.2.2.2.2.2.2.2.2.2.2.2.2.2.2.2.2.2.2.2.2.2.2.2.1
theorem d_Reader_nextWord_53 : decode prog_8_method_15_code 53 = .ok (.getfield 60, 3) := F_Reader_nextWord_0.2.2.2.2.2.2.2.2.2.2.2.2.2.2.2.2.2.2.2.2.2.2.2.2.2.2.2.1
theorem d_Reader_nextWord_56 : decode prog_8_method_15_code 56 = .ok (.iaload, 1) := F_Reader_nextWord_0.2.2.2.2.2.2.2.2.2.2.2.2.2.2.2.2.2.2.2.2.2.2.2.2.2.2.2.2.1
theorem d_Reader_nextWord_57 : decode prog_8_method_15_code 57 = .ok (.iadd, 1) := F_Reader_nextWord_0.2.2.2.2.2.2.2.2.2.2.2.2.2.2.2.2.2.2.2.2.2.2.2.2.2.2.2.2.2.1
theorem d_Reader_nextWord_58 : decode prog_8_method_15_code 58 = .ok (.bipush (97), 2) := F_Reader_nextWord_0.2.2.2.2.2.2.2.2.2.2.2.2.2.2.2.2.2.2.2.2.2.2.2.2.2.2.2.2.2.2.1
theorem d_Reader_nextWord_60 : decode prog_8_method_15_code 60 = .ok (.isub, 1) := F_Reader_nextWord_0.2.2.2.2.2.2.2.2.2.2.2.2.2.2.2.2.2.2.2.2.2.2.2.2.2.2.2.2.2.2.2.1
theorem F_Reader_nextWord_61 : Jvm.Free.DS.Facts prog_8_method_15_code 61 [(.iconst 1, 1), (.iadd, 1), (.putfield 164, 3), (.iinc 1 (1), 3), (.aload_n 0, 1), (.dup, 1), (.getfield 60, 3), (.iconst 1, 1), (.iadd, 1), (.putfield 60, 3), (.goto (-77), 3), (.aload_n 0, 1), (.iload_n 1, 1), (.bipush (6), 2), (.if_icmp .le (7), 3), (.iconst 5, 1), (.goto (4), 3), (.iconst 2, 1), (.putfield 69, 3), (.return_, 1)] := Jvm.Free.DS.facts 61 _ (by decide +kernel) (by decide +kernel)
theorem d_Reader_nextWord_61 : decode prog_8_method_15_code 61 = .ok (.iconst 1, 1) := F_Reader_nextWord_61.1
theorem d_Reader_nextWord_62 : decode prog_8_method_15_code 62 = .ok (.iadd, 1) := F_Reader_nextWord_61.2.1
theorem d_Reader_nextWord_63 : decode prog_8_method_15_code 63 = .ok (.putfield 164, 3) := F_Reader_nextWord_61.2.2.1
theorem d_Reader_nextWord_66 : decode prog_8_method_15_code 66 = .ok (.iinc 1 (1), 3) := F_Reader_nextWord_61.2.2.2.1
theorem d_Reader_nextWord_69 : decode prog_8_method_15_code 69 = .ok (.aload_n 0, 1) := F_Reader_nextWord_61.2.2.2.2.1
theorem d_Reader_nextWord_70 : decode prog_8_method_15_code 70 = .ok (.dup, 1) := F_Reader_nextWord_61.2.2.2.2.2.1
theorem d_Reader_nextWord_71 : decode prog_8_method_15_code 71 = .ok (.getfield 60, 3) := F_Reader_nextWord_61.2.2.2.2.2.2.1
theorem d_Reader_nextWord_74 : decode prog_8_method_15_code 74 = .ok (.iconst 1, 1) := F_Reader_nextWord_61.2.2.2.2.2.2.2.1
theorem d_Reader_nextWord_75 : decode prog_8_method_15_code 75 = .ok (.iadd, 1) := F_Reader_nextWord_61.2.2.2.2.2.2.2.2.1
theorem d_Reader_nextWord_76 : decode prog_8_method_15_code 76 = .ok (.putfield 60, 3) := F_Reader_nextWord_61.2.2.2.2.2.2.2.2.2.1
theorem d_Reader_nextWord_79 : decode prog_8_method_15_code 79 = .ok (.goto (-77), 3) := F_Reader_nextWord_61.2.2.2.2.2.2.2.2.2.2.1
theorem d_Reader_nextWord_82 : decode prog_8_method_15_code 82 = .ok (.aload_n 0, 1) := F_Reader_nextWord_61.2.2.2.2.2.2.2.2.2.2.2.1
theorem d_Reader_nextWord_83 : decode prog_8_method_15_code 83 = .ok (.iload_n 1, 1) := F_Reader_nextWord_61.2.2.2.2.2.2.2.2.2.2.2.2.1
theorem d_Reader_nextWord_84 : decode prog_8_method_15_code 84 = .ok (.bipush (6), 2) := F_Reader_nextWord_61.2.2.2.2.2.2.2.2.2.2.2.2.2.1
theorem d_Reader_nextWord_86 : decode prog_8_method_15_code 86 = .ok (.if_icmp .le (7), 3) := F_Reader_nextWord_61.2.2.2.2.2.2.2.2.2.2.2.2.2.2.1
theorem d_Reader_nextWord_89 : decode prog_8_method_15_code 89 = .ok (.iconst 5, 1) := F_Reader_nextWord_61.2.2.2.2.2.2.2.2.2.2.2.2.2.2.2.1
theorem d_Reader_nextWord_90 : decode prog_8_method_15_code 90 = .ok (.goto (4), 3) := F_Reader_nextWord_61.2.2.2.2.2.2.2.2.2.2.2.2.2.2.2.2.1
theorem d_Reader_nextWord_93 : decode prog_8_method_15_code 93 = .ok (.iconst 2, 1) := F_Reader_nextWord_61.2.2.2.2.2.2.2.2.2.2.2.2.2.2.2.2.2.1
theorem d_Reader_nextWord_94 : decode prog_8_method_15_code 94 = .ok (.putfield 69, 3) := F_Reader_nextWord_61.2.2.2.2.2.2.2.2.2.2.2.2.2.2.2.2.2.2.1
theorem d_Reader_nextWord_97 : decode prog_8_method_15_code 97 = .ok (.return_, 1) := F_Reader_nextWord_61.2.2.2.2.2.2.2.2.2.2.2.2.2.2.2.2.2.2.2.1
theorem F_Reader_isDigit_0 : Jvm.Free.DS.Facts prog_8_method_20_code 0 [(.iload_n 0, 1), (.bipush (48), 2), (.if_icmp .lt (13), 3), (.iload_n 0, 1), (.bipush (57), 2), (.if_icmp .gt (7), 3), (.iconst 1, 1), (.goto (4), 3), (.iconst 0, 1), (.ireturn, 1)] := Jvm.Free.DS.facts 0 _ (by decide +kernel) (by decide +kernel)
theorem d_Reader_isDigit_0 : decode prog_8_method_20_code 0 = .ok (.iload_n 0, 1) := F_Reader_isDigit_0.1
theorem d_Reader_isDigit_1 : decode prog_8_method_20_code 1 = .ok (.bipush (48), 2) := F_Reader_isDigit_0.2.1
theorem d_Reader_isDigit_3 : decode prog_8_method_20_code 3 = .ok (.if_icmp .lt (13), 3) := F_Reader_isDigit_0.2.2.1
theorem d_Reader_isDigit_6 : decode prog_8_method_20_code 6 = .ok (.iload_n 0, 1) := F_Reader_isDigit_0.2.2.2.1
theorem d_Reader_isDigit_7 : decode prog_8_method_20_code 7 = .ok (.bipush (57), 2) := F_Reader_isDigit_0.2.2.2.2.1
theorem d_Reader_isDigit_9 : decode prog_8_method_20_code 9 = .ok (.if_icmp .gt (7), 3) := F_Reader_isDigit_0.2.2.2.2.2.1
theorem d_Reader_isDigit_12 : decode prog_8_method_20_code 12 = .ok (.iconst 1, 1) := F_Reader_isDigit_0.2.2.2.2.2.2.1
theorem d_Reader_isDigit_13 : decode prog_8_method_20_code 13 = .ok (.goto (4), 3) := F_Reader_isDigit_0.2.2.2.2.2.2.2.1
theorem d_Reader_isDigit_16 : decode prog_8_method_20_code 16 = .ok (.iconst 0, 1) := F_Reader_isDigit_0.2.2.2.2.2.2.2.2.1
theorem d_Reader_isDigit_17 : decode prog_8_method_20_code 17 = .ok (.ireturn, 1) := F_Reader_isDigit_0.2.2.2.2.2.2.2.2.2.1
theorem F_Reader_nextDigits_0 : Jvm.Free.DS.Facts prog_8_method_16_code 0 [(.aload_n 0, 1), (.getfield 60, 3), (.aload_n 0, 1), (.getfield 57, 3), (.if_icmp .ge (66), 3), (.aload_n 0, 1), (.getfield 29, 3), (.getfield 173, 3), (.aload_n 0, 1), (.getfield 60, 3), (.iaload, 1), (.invokestatic 185, 3), (.ifCond .eq (48), 3), (.aload_n 0, 1), (.ldc 195, 2), (.bipush (10), 2), (.aload_n 0, 1), (.getfield 164, 3), (.imul, 1), (.aload_n 0, 1), (.getfield 29, 3), (.getfield 173, 3), (.aload_n 0, 1), (.getfield 60, 3), (.iaload, 1), (.iadd, 1), (.bipush (48), 2), (.isub, 1), (.invokestatic 51, 3), (.putfield 164, 3), (.aload_n 0, 1), (.dup, 1)] := Jvm.Free.DS.facts 0 _ (by decide +kernel) (by decide +kernel)
theorem d_Reader_nextDigits_0 : decode prog_8_method_16_code 0 = .ok (.aload_n 0, 1) := F_Reader_nextDigits_0.1
theorem d_Reader_nextDigits_1 : decode prog_8_method_16_code 1 = .ok (.getfield 60, 3) := F_Reader_nextDigits_0.2.1
theorem d_Reader_nextDigits_4 : decode prog_8_method_16_code 4 = .ok (.aload_n 0, 1) := F_Reader_nextDigits_0.2.2.1
theorem d_Reader_nextDigits_5 : decode prog_8_method_16_code 5 = .ok (.getfield 57, 3) := F_Reader_nextDigits_0.2.2.2.1
theorem d_Reader_nextDigits_8 : decode prog_8_method_16_code 8 = .ok (.if_icmp .ge (66), 3) := F_Reader_nextDigits_0.2.2.2.2.1
theorem d_Reader_nextDigits_11 : decode prog_8_method_16_code 11 = .ok (.aload_n 0, 1) := F_Reader_nextDigits_0.2.2.2.2.2.1
theorem d_Reader_nextDigits_12 : decode prog_8_method_16_code 12 = .ok (.getfield 29, 3) := F_Reader_nextDigits_0.2.2.2.2.2.2.1
theorem d_Reader_nextDigits_15 : decode prog_8_method_16_code 15 = .ok (.getfield 173, 3) := F_Reader_nextDigits_0.2.2.2.2.2.2.2.1
theorem d_Reader_nextDigits_18 : decode prog_8_method_16_code 18 = .ok (.aload_n 0, 1) := F_Reader_nextDigits_0.2.2.2.2.2.2.2.2.1
theorem d_Reader_nextDigits_19 : decode prog_8_method_16_code 19 = .ok (.getfield 60, 3) := F_Reader_nextDigits_0.2.2.2.2.2.2.2.2.2.1
theorem d_Reader_nextDigits_22 : decode prog_8_method_16_code 22 = .ok (.iaload, 1) := F_Reader_nextDigits_0.2.2.2.2.2.2.2.2.2.2.1
theorem d_Reader_nextDigits_23 : decode prog_8_method_16_code 23 = .ok (.invokestatic 185, 3) := F_Reader_nextDigits_0.2.2.2.2.2.2.2.2.2.2.2.1
theorem d_Reader_nextDigits_26 : decode prog_8_method_16_code 26 = .ok (.ifCond .eq (48), 3) := F_Reader_nextDigits_0.2.2.2.2.2.2.2.2.2.2.2.2.1
theorem d_Reader_nextDigits_29 : decode prog_8_method_16_code 29 = .ok (.aload_n 0, 1) := F_Reader_nextDigits_0.2.2.2.2.2.2.2.2.2.2.2.2.2.1
theorem d_Reader_nextDigits_30 : decode prog_8_method_16_code 30 = .ok (.ldc 195, 2) := F_Reader_nextDigits_0.2.2.2.2.2.2.2.2.2.2.2.2.2.2.1
theorem d_Reader_nextDigits_32 : decode prog_8_method_16_code 32 = .ok (.bipush (10), 2) := F_Reader_nextDigits_0.2.2.2.2.2.2.2.2.2.2.2.2.2.2.2.1
theorem d_Reader_nextDigits_34 : decode prog_8_method_16_code 34 = .ok (.aload_n 0, 1) := F_Reader_nextDigits_0.2.2.2.2.2.2.2.2.2.2.2.2.2.2.2.2.1
theorem d_Reader_nextDigits_35 : decode prog_8_method_16_code 35 = .ok (.getfield 164, 3) := F_Reader_nextDigits_0.2.2.2.2.2.2.2.2.2.2.2.2.2.2.2.2.2.1
theorem d_Reader_nextDigits_38 : decode prog_8_method_16_code 38 = .ok (.imul, 1) := F_Reader_nextDigits_0.2.2.2.2.2.2.2.2.2.2.2.2.2.2.2.2.2.2.1
theorem d_Reader_nextDigits_39 : decode prog_8_method_16_code 39 = .ok (.aload_n 0, 1) := F_Reader_nextDigits_0.2.2.2.2.2.2.2.2.2.2.2.2.2.2.2.2.2.2.2.1
theorem d_Reader_nextDigits_40 : decode prog_8_method_16_code 40 = .ok (.getfield 29, 3) := F_Reader_nextDigits_0.2.2.2.2.2.2.2.2.2.2.2.2.2.2.2.2.2.2.2.2.1
theorem d_Reader_nextDigits_43 : decode prog_8_method_16_code 43 = .ok (.getfield 173, 3) := F_Reader_nextDigits_0.2.2.2.2.2.2.2.2.2.2.2.2.2.2.2.2.2.2.2.2.2.1
theorem d_Reader_nextDigits_46 : decode prog_8_method_16_code 46 = .ok (.aload_n 0, 1) := F_Reader_nextDigits_0.2.2.2.2.2.2.2.2.2.2.2.2.2.2.2.2.2.2.2.2.2.2.1
theorem d_Reader_nextDigits_47 : decode prog_8_method_16_code 47 = .ok (.getfield 60, 3) := F_Reader_nextDigits_0.2.2.2.2.2.2.2.2.2.2.2.2.2.2.2.2.2.2.2.2.2.2.2.1
theorem d_Reader_nextDigits_50 : decode prog_8_method_16_code 50 = .ok (.iaload, 1) := F_Reader_nextDigits_0.2.2.2.2.2.2.2.2.2.2.2.2.2.2.2.2.2.2.2.2.2.2.2.2.1
theorem d_Reader_nextDigits_51 : decode prog_8_method_16_code 51 = .ok (.iadd, 1) := F_Reader_nextDigits_0.2.2.2.2.2.2.2.2.2.2.2.2.2.2.2.2.2.2.2.2.2.2.2.2.2.1
theorem d_Reader_nextDigits_52 : decode prog_8_method_16_code 52 = .ok (.bipush (48), 2) := F_Reader_nextDigits_0.2.2.2.2.2.2.2.2.2.2.2.2.2.2.2.2.2.2.2.2.2.2.2.2.2.2.1
theorem d_Reader_nextDigits_54 : decode prog_8_method_16_code 54 = .ok (.isub, 1) := F_Reader_nextDigits_0.2.2.2.2.2.2.2.2.2.2.2.2.2.2.2.2.2.2.2.2.2.2.2.2.2.2.2.1
theorem d_Reader_nextDigits_55 : decode prog_8_method_16_code 55 = .ok (.invokestatic 51, 3) := F_Reader_nextDigits_0.2.2.2.2.2.2.2.2.2.2.2.2.2.2.2.2.2.2.2.2.2.2.2.2.2.2.2.2.1
theorem d_Reader_nextDigits_58 : decode prog_8_method_16_code 58 = .ok (.putfield 164, 3) := F_Reader_nextDigits_0.2.2.2.2.2.2.2.2.2.2.2.2.2.2.2.2.2.2.2.2.2.2.2.2.2.2.2.2.2.1
theorem d_Reader_nextDigits_61 : decode prog_8_method_16_code 61 = .ok (.aload_n 0, 1) := F_Reader_nextDigits_0.2.2.2.2.2.2.2.2.2.2.2.2.2.2.2.2.2.2.2.2.2.2.2.2.2.2.2.2.2.2.1
theorem d_Reader_nextDigits_62 : decode prog_8_method_16_code 62 = .ok (.dup, 1) := F_Reader_nextDigits_0.2.2.2.2.2.2.2.2.2.2.2.2.2.2.2.2.2.2.2.2.2.2.2.2.2.2.2.2.2.2.2.1
theorem F_Reader_nextDigits_63 : Jvm.Free.DS.Facts prog_8_method_16_code 63 [(.getfield 60, 3), (.iconst 1, 1), (.iadd, 1), (.putfield 60, 3), (.goto (-71), 3), (.aload_n 0, 1), (.iconst 3, 1), (.putfield 69, 3), (.return_, 1)] := Jvm.Free.DS.facts 63 _ (by decide +kernel) (by decide +kernel)
theorem d_Reader_nextDigits_63 : decode prog_8_method_16_code 63 = .ok (.getfield 60, 3) := F_Reader_nextDigits_63.1
theorem d_Reader_nextDigits_66 : decode prog_8_method_16_code 66 = .ok (.iconst 1, 1) := F_Reader_nextDigits_63.2.1
theorem d_Reader_nextDigits_67 : decode prog_8_method_16_code 67 = .ok (.iadd, 1) := F_Reader_nextDigits_63.2.2.1
theorem d_Reader_nextDigits_68 : decode prog_8_method_16_code 68 = .ok (.putfield 60, 3) := F_Reader_nextDigits_63.2.2.2.1
theorem d_Reader_nextDigits_71 : decode prog_8_method_16_code 71 = .ok (.goto (-71), 3) := F_Reader_nextDigits_63.2.2.2.2.1
theorem d_Reader_nextDigits_74 : decode prog_8_method_16_code 74 = .ok (.aload_n 0, 1) := F_Reader_nextDigits_63.2.2.2.2.2.1
theorem d_Reader_nextDigits_75 : decode prog_8_method_16_code 75 = .ok (.iconst 3, 1) := F_Reader_nextDigits_63.2.2.2.2.2.2.1
theorem d_Reader_nextDigits_76 : decode prog_8_method_16_code 76 = .ok (.putfield 69, 3) := F_Reader_nextDigits_63.2.2.2.2.2.2.2.1
theorem d_Reader_nextDigits_79 : decode prog_8_method_16_code 79 = .ok (.return_, 1) := F_Reader_nextDigits_63.2.2.2.2.2.2.2.2.1
theorem F_Reader_nextSign_0 : Jvm.Free.DS.Facts prog_8_method_17_code 0 [(.aload_n 0, 1), (.dup, 1), (.getfield 60, 3), (.iconst 1, 1), (.iadd, 1), (.putfield 60, 3), (.iload_n 1, 1), (.bipush (59), 2), (.if_icmp .ne (11), 3), (.aload_n 0, 1), (.iconst 1, 1), (.putfield 69, 3), (.goto (18), 3), (.aload_n 0, 1), (.iload_n 1, 1), (.bipush (45), 2), (.if_icmp .ne (7), 3), (.iconst 4, 1), (.goto (4), 3), (.iconst 5, 1), (.putfield 69, 3), (.return_, 1)] := Jvm.Free.DS.facts 0 _ (by decide +kernel) (by decide +kernel)
theorem d_Reader_nextSign_0 : decode prog_8_method_17_code 0 = .ok (.aload_n 0, 1) := F_Reader_nextSign_0.1
theorem d_Reader_nextSign_1 : decode prog_8_method_17_code 1 = .ok (.dup, 1) := F_Reader_nextSign_0.2.1
theorem d_Reader_nextSign_2 : decode prog_8_method_17_code 2 = .ok (.getfield 60, 3) := F_Reader_nextSign_0.2.2.1
theorem d_Reader_nextSign_5 : decode prog_8_method_17_code 5 = .ok (.iconst 1, 1) := F_Reader_nextSign_0.2.2.2.1
theorem d_Reader_nextSign_6 : decode prog_8_method_17_code 6 = .ok (.iadd, 1) := F_Reader_nextSign_0.2.2.2.2.1
theorem d_Reader_nextSign_7 : decode prog_8_method_17_code 7 = .ok (.putfield 60, 3) := F_Reader_nextSign_0.2.2.2.2.2.1
theorem d_Reader_nextSign_10 : decode prog_8_method_17_code 10 = .ok (.iload_n 1, 1) := F_Reader_nextSign_0.2.2.2.2.2.2.1
theorem d_Reader_nextSign_11 : decode prog_8_method_17_code 11 = .ok (.bipush (59), 2) := F_Reader_nextSign_0.2.2.2.2.2.2.2.1
theorem d_Reader_nextSign_13 : decode prog_8_method_17_code 13 = .ok (.if_icmp .ne (11), 3) := F_Reader_nextSign_0.2.2.2.2.2.2.2.2.1
theorem d_Reader_nextSign_16 : decode prog_8_method_17_code 16 = .ok (.aload_n 0, 1) := F_Reader_nextSign_0.2.2.2.2.2.2.2.2.2.1
theorem d_Reader_nextSign_17 : decode prog_8_method_17_code 17 = .ok (.iconst 1, 1) := F_Reader_nextSign_0.2.2.2.2.2.2.2.2.2.2.1
theorem d_Reader_nextSign_18 : decode prog_8_method_17_code 18 = .ok (.putfield 69, 3) := F_Reader_nextSign_0.2.2.2.2.2.2.2.2.2.2.2.1
theorem d_Reader_nextSign_21 : decode prog_8_method_17_code 21 = .ok (.goto (18), 3) := F_Reader_nextSign_0.2.2.2.2.2.2.2.2.2.2.2.2.1
theorem d_Reader_nextSign_24 : decode prog_8_method_17_code 24 = .ok (.aload_n 0, 1) := F_Reader_nextSign_0.2.2.2.2.2.2.2.2.2.2.2.2.2.1
theorem d_Reader_nextSign_25 : decode prog_8_method_17_code 25 = .ok (.iload_n 1, 1) := F_Reader_nextSign_0.2.2.2.2.2.2.2.2.2.2.2.2.2.2.1
theorem d_Reader_nextSign_26 : decode prog_8_method_17_code 26 = .ok (.bipush (45), 2) := F_Reader_nextSign_0.2.2.2.2.2.2.2.2.2.2.2.2.2.2.2.1
theorem d_Reader_nextSign_28 : decode prog_8_method_17_code 28 = .ok (.if_icmp .ne (7), 3) := F_Reader_nextSign_0.2.2.2.2.2.2.2.2.2.2.2.2.2.2.2.2.1
theorem d_Reader_nextSign_31 : decode prog_8_method_17_code 31 = .ok (.iconst 4, 1) := F_Reader_nextSign_0.2.2.2.2.2.2.2.2.2.2.2.2.2.2.2.2.2.1
theorem d_Reader_nextSign_32 : decode prog_8_method_17_code 32 = .ok (.goto (4), 3) := F_Reader_nextSign_0.2.2.2.2.2.2.2.2.2.2.2.2.2.2.2.2.2.2.1
theorem d_Reader_nextSign_35 : decode prog_8_method_17_code 35 = .ok (.iconst 5, 1) := F_Reader_nextSign_0.2.2.2.2.2.2.2.2.2.2.2.2.2.2.2.2.2.2.2.1
theorem d_Reader_nextSign_36 : decode prog_8_method_17_code 36 = .ok (.putfield 69, 3) := F_Reader_nextSign_0.2.2.2.2.2.2.2.2.2.2.2.2.2.2.2.2.2.2.2.2.1
theorem d_Reader_nextSign_39 : decode prog_8_method_17_code 39 = .ok (.return_, 1) := F_Reader_nextSign_0.2.2.2.2.2.2.2.2.2.2.2.2.2.2.2.2.2.2.2.2.2.1
theorem F_Reader_isWord_0 : Jvm.Free.DS.Facts prog_8_method_12_code 0 [(.aload_n 0, 1), (.getfield 69, 3), (.iconst 2, 1), (.if_icmp .ne (15), 3), (.aload_n 0, 1), (.getfield 164, 3), (.iload_n 1, 1), (.if_icmp .ne (7), 3), (.iconst 1, 1), (.goto (4), 3), (.iconst 0, 1), (.ireturn, 1)] := Jvm.Free.DS.facts 0 _ (by decide +kernel) (by decide +kernel)
theorem d_Reader_isWord_0 : decode prog_8_method_12_code 0 = .ok (.aload_n 0, 1) := F_Reader_isWord_0.1
theorem d_Reader_isWord_1 : decode prog_8_method_12_code 1 = .ok (.getfield 69, 3) := F_Reader_isWord_0.2.1
theorem d_Reader_isWord_4 : decode prog_8_method_12_code 4 = .ok (.iconst 2, 1) := F_Reader_isWord_0.2.2.1
theorem d_Reader_isWord_5 : decode prog_8_method_12_code 5 = .ok (.if_icmp .ne (15), 3) := F_Reader_isWord_0.2.2.2.1
theorem d_Reader_isWord_8 : decode prog_8_method_12_code 8 = .ok (.aload_n 0, 1) := F_Reader_isWord_0.2.2.2.2.1
theorem d_Reader_isWord_9 : decode prog_8_method_12_code 9 = .ok (.getfield 164, 3) := F_Reader_isWord_0.2.2.2.2.2.1
theorem d_Reader_isWord_12 : decode prog_8_method_12_code 12 = .ok (.iload_n 1, 1) := F_Reader_isWord_0.2.2.2.2.2.2.1
theorem d_Reader_isWord_13 : decode prog_8_method_12_code 13 = .ok (.if_icmp .ne (7), 3) := F_Reader_isWord_0.2.2.2.2.2.2.2.1
theorem d_Reader_isWord_16 : decode prog_8_method_12_code 16 = .ok (.iconst 1, 1) := F_Reader_isWord_0.2.2.2.2.2.2.2.2.1
theorem d_Reader_isWord_17 : decode prog_8_method_12_code 17 = .ok (.goto (4), 3) := F_Reader_isWord_0.2.2.2.2.2.2.2.2.2.1
theorem d_Reader_isWord_20 : decode prog_8_method_12_code 20 = .ok (.iconst 0, 1) := F_Reader_isWord_0.2.2.2.2.2.2.2.2.2.2.1
theorem d_Reader_isWord_21 : decode prog_8_method_12_code 21 = .ok (.ireturn, 1) := F_Reader_isWord_0.2.2.2.2.2.2.2.2.2.2.2.1
theorem F_Reader_readQuad_0 : Jvm.Free.DS.Facts prog_8_method_3_code 0 [(.aload_n 0, 1), (.getfield 37, 3), (.getfield 94, 3), (.istore_n 1, 1), (.iload_n 1, 1), (.bipush (8), 2), (.if_icmp .ne (9), 3), (.aload_n 0, 1), (.iconst 2, 1), (.invokevirtual 88, 3), (.ireturn, 1), (.aload_n 0, 1), (.invokevirtual 66, 3), (.aload_n 0, 1), (.aload_n 0, 1), (.getfield 9, 3), (.iload_n 1, 1), (.invokevirtual 97, 3), (.ifCond .ne (5), 3), (.iconst 0, 1), (.ireturn, 1), (.aload_n 0, 1), (.getfield 37, 3), (.getfield 101, 3), (.iload_n 1, 1), (.aaload, 1), (.astore_n 2, 1), (.iconst 0, 1), (.istore_n 3, 1), (.iload_n 3, 1), (.iconst 4, 1), (.if_icmp .ge (43), 3)] := Jvm.Free.DS.facts 0 _ (by decide +kernel) (by decide +kernel)
theorem d_Reader_readQuad_0 : decode prog_8_method_3_code 0 = .ok (.aload_n 0, 1) := F_Reader_readQuad_0.1
theorem d_Reader_readQuad_1 : decode prog_8_method_3_code 1 = .ok (.getfield 37, 3) := F_Reader_readQuad_0.2.1
theorem d_Reader_readQuad_4 : decode prog_8_method_3_code 4 = .ok (.getfield 94, 3) := F_Reader_readQuad_0.2.2.1
theorem d_Reader_readQuad_7 : decode prog_8_method_3_code 7 = .ok (.istore_n 1, 1) := F_Reader_readQuad_0.2.2.2.1
theorem d_Reader_readQuad_8 : decode prog_8_method_3_code 8 = .ok (.iload_n 1, 1) := F_Reader_readQuad_0.2.2.2.2.1
theorem d_Reader_readQuad_9 : decode prog_8_method_3_code 9 = .ok (.bipush (8), 2) := F_Reader_readQuad_0.2.2.2.2.2.1
theorem d_Reader_readQuad_11 : decode prog_8_method_3_code 11 = .ok (.if_icmp .ne (9), 3) := F_Reader_readQuad_0.2.2.2.2.2.2.1
theorem d_Reader_readQuad_14 : decode prog_8_method_3_code 14 = .ok (.aload_n 0, 1) := F_Reader_readQuad_0.2.2.2.2.2.2.2.1
theorem d_Reader_readQuad_15 : decode prog_8_method_3_code 15 = .ok (.iconst 2, 1) := F_Reader_readQuad_0.2.2.2.2.2.2.2.2.1
theorem d_Reader_readQuad_16 : decode prog_8_method_3_code 16 = .ok (.invokevirtual 88, 3) := F_Reader_readQuad_0.2.2.2.2.2.2.2.2.2.1
theorem d_Reader_readQuad_19 : decode prog_8_method_3_code 19 = .ok (.ireturn, 1) := F_Reader_readQuad_0.2.2.2.2.2.2.2.2.2.2.1
theorem d_Reader_readQuad_20 : decode prog_8_method_3_code 20 = .ok (.aload_n 0, 1) := F_Reader_readQuad_0.2.2.2.2.2.2.2.2.2.2.2.1
theorem d_Reader_readQuad_21 : decode prog_8_method_3_code 21 = .ok (.invokevirtual 66, 3) := F_Reader_readQuad_0.2.2.2.2.2.2.2.2.2.2.2.2.1
theorem d_Reader_readQuad_24 : decode prog_8_method_3_code 24 = .ok (.aload_n 0, 1) := F_Reader_readQuad_0.2.2.2.2.2.2.2.2.2.2.2.2.2.1
theorem d_Reader_readQuad_25 : decode prog_8_method_3_code 25 = .ok (.aload_n 0, 1) := F_Reader_readQuad_0.2.2.2.2.2.2.2.2.2.2.2.2.2.2.1
theorem d_Reader_readQuad_26 : decode prog_8_method_3_code 26 = .ok (.getfield 9, 3) := F_Reader_readQuad_0.2.2.2.2.2.2.2.2.2.2.2.2.2.2.2.1
theorem d_Reader_readQuad_29 : decode prog_8_method_3_code 29 = .ok (.iload_n 1, 1) := F_Reader_readQuad_0.2.2.2.2.2.2.2.2.2.2.2.2.2.2.2.2.1
theorem d_Reader_readQuad_30 : decode prog_8_method_3_code 30 = .ok (.invokevirtual 97, 3) := F_Reader_readQuad_0.2.2.2.2.2.2.2.2.2.2.2.2.2.2.2.2.2.1
theorem d_Reader_readQuad_33 : decode prog_8_method_3_code 33 = .ok (.ifCond .ne (5), 3) := F_Reader_readQuad_0.2.2.2.2.2.2.2.2.2.2.2.2.2.2.2.2.2.2.1
theorem d_Reader_readQuad_36 : decode prog_8_method_3_code 36 = .ok (.iconst 0, 1) := F_Reader_readQuad_0.2.2.2.2.2.2.2.2.2.2.2.2.2.2.2.2.2.2.2.1
theorem d_Reader_readQuad_37 : decode prog_8_method_3_code 37 = .ok (.ireturn, 1) := F_Reader_readQuad_0.2.2.2.2.2.2.2.2.2.2.2.2.2.2.2.2.2.2.2.2.1
theorem d_Reader_readQuad_38 : decode prog_8_method_3_code 38 = .ok (.aload_n 0, 1) := F_Reader_readQuad_0.2.2.2.2.2.2.2.2.2.2.2.2.2.2.2.2.2.2.2.2.2.1
theorem d_Reader_readQuad_39 : decode prog_8_method_3_code 39 = .ok (.getfield 37, 3) := F_Reader_readQuad_0.2.2.2.2.2.2.2.2.2.2.2.2.2.2.2.2.2.2.2.2.2.2.1
theorem d_Reader_readQuad_42 : decode prog_8_method_3_code 42 = .ok (.getfield 101, 3) := F_Reader_readQuad_0.2.2.2.2.2.2.2.2.2.2.2.2.2.2.2.2.2.2.2.2.2.2.2.1
theorem d_Reader_readQuad_45 : decode prog_8_method_3_code 45 = .ok (.iload_n 1, 1) := F_Reader_readQuad_0.2.2.2.2.2.2.2.2.2.2.2.2.2.2.2.2.2.2.2.2.2.2.2.2.1
theorem d_Reader_readQuad_46 : decode prog_8_method_3_code 46 = .ok (.aaload, 1) := F_Reader_readQuad_0.2.2.2.2.2.2.2.2.2.2.2.2.2.2.2.2.2.2.2.2.2.2.2.2.2.1
theorem d_Reader_readQuad_47 : decode prog_8_method_3_code 47 = .ok (.astore_n 2, 1) := F_Reader_readQuad_0.2.2.2.2.2.2.2.2.2.2.2.2.2.2.2.2.2.2.2.2.2.2.2.2.2.2.1
theorem d_Reader_readQuad_48 : decode prog_8_method_3_code 48 = .ok (.iconst 0, 1) := F_Reader_readQuad_0.2.2.2.2.2.2.2.2.2.2.2.2.2.2.2.2.2.2.2.2.2.2.2.2.2.2.2.1
theorem d_Reader_readQuad_49 : decode prog_8_method_3_code 49 = .ok (.istore_n 3, 1) := F_Reader_readQuad_0.2.2.2.2.2.2.2.2.2.2.2.2.2.2.2.2.2.2.2.2.2.2.2.2.2.2.2.2.1
theorem d_Reader_readQuad_50 : decode prog_8_method_3_code 50 = .ok (.iload_n 3, 1) := F_Reader_readQuad_0.2.2.2.2.2.2.2.2.2.2.2.2.2.2.2.2.2.2.2.2.2.2.2.2.2.2.2.2.2.1
theorem d_Reader_readQuad_51 : decode prog_8_method_3_code 51 = .ok (.iconst 4, 1) := F_Reader_readQuad_0.2.2.2.2.2.2.2.2.2.2.2.2.2.2.2.2.2.2.2.2.2.2.2.2.2.2.2.2.2.2.1
theorem d_Reader_readQuad_52 : decode prog_8_method_3_code 52 = .ok (.if_icmp .ge (43), 3) := F_Reader_readQuad_0.2.2.2.2.2.2.2.2.2.2.2.2.2.2.2.2.2.2.2.2.2.2.2.2.2.2.2.2.2.2.2.1
theorem F_Reader_readQuad_55 : Jvm.Free.DS.Facts prog_8_method_3_code 55 [(.aload_n 0, 1), (.iconst 2, 1), (.bipush (20), 2), (.invokevirtual 105, 3), (.ifCond .ne (5), 3), (.iconst 0, 1), (.ireturn, 1), (.aload_n 0, 1), (.getfield 18, 3), (.iconst 0, 1), (.laload, 1), (.aload_n 0, 1), (.getfield 18, 3), (.iconst 1, 1), (.laload, 1), (.lconst 1, 1), (.aload_n 2, 1), (.getfield 109, 3), (.iload_n 3, 1), (.aaload, 1), (.invokestatic 115, 3), (.iinc 3 (1), 3), (.goto (-42), 3), (.aload_n 0, 1), (.getfield 69, 3), (.iconst 1, 1), (.if_icmp .eq (9), 3), (.aload_n 0, 1), (.iconst 1, 1), (.invokevirtual 88, 3), (.ireturn, 1), (.aload_n 2, 1)] := Jvm.Free.DS.facts 55 _ (by decide +kernel) (by decide +kernel)
theorem d_Reader_readQuad_55 : decode prog_8_method_3_code 55 = .ok (.aload_n 0, 1) := F_Reader_readQuad_55.1
theorem d_Reader_readQuad_56 : decode prog_8_method_3_code 56 = .ok (.iconst 2, 1) := F_Reader_readQuad_55.2.1
theorem d_Reader_readQuad_57 : decode prog_8_method_3_code 57 = .ok (.bipush (20), 2) := F_Reader_readQuad_55.2.2.1
theorem d_Reader_readQuad_59 : decode prog_8_method_3_code 59 = .ok (.invokevirtual 105, 3) := F_Reader_readQuad_55.2.2.2.1
theorem d_Reader_readQuad_62 : decode prog_8_method_3_code 62 = .ok (.ifCond .ne (5), 3) := F_Reader_readQuad_55.2.2.2.2.1
theorem d_Reader_readQuad_65 : decode prog_8_method_3_code 65 = .ok (.iconst 0, 1) := F_Reader_readQuad_55.2.2.2.2.2.1
theorem d_Reader_readQuad_66 : decode prog_8_method_3_code 66 = .ok (.ireturn, 1) := F_Reader_readQuad_55.2.2.2.2.2.2.1
theorem d_Reader_readQuad_67 : decode prog_8_method_3_code 67 = .ok (.aload_n 0, 1) := F_Reader_readQuad_55.2.2.2.2.2.2.2.1
theorem d_Reader_readQuad_68 : decode prog_8_method_3_code 68 = .ok (.getfield 18, 3) := F_Reader_readQuad_55.2.2.2.2.2.2.2.2.1
theorem d_Reader_readQuad_71 : decode prog_8_method_3_code 71 = .ok (.iconst 0, 1) := F_Reader_readQuad_55.2.2.2.2.2.2.2.2.2.1
theorem d_Reader_readQuad_72 : decode prog_8_method_3_code 72 = .ok (.laload, 1) := F_Reader_readQuad_55.2.2.2.2.2.2.2.2.2.2.1
theorem d_Reader_readQuad_73 : decode prog_8_method_3_code 73 = .ok (.aload_n 0, 1) := F_Reader_readQuad_55.2.2.2.2.2.2.2.2.2.2.2.1
theorem d_Reader_readQuad_74 : decode prog_8_method_3_code 74 = .ok (.getfield 18, 3) := F_Reader_readQuad_55.2.2.2.2.2.2.2.2.2.2.2.2.1
theorem d_Reader_readQuad_77 : decode prog_8_method_3_code 77 = .ok (.iconst 1, 1) := F_Reader_readQuad_55.2.2.2.2.2.2.2.2.2.2.2.2.2.1
theorem d_Reader_readQuad_78 : decode prog_8_method_3_code 78 = .ok (.laload, 1) := F_Reader_readQuad_55.2.2.2.2.2.2.2.2.2.2.2.2.2.2.1
theorem d_Reader_readQuad_79 : decode prog_8_method_3_code 79 = .ok (.lconst 1, 1) := F_Reader_readQuad_55.2.2.2.2.2.2.2.2.2.2.2.2.2.2.2.1
theorem d_Reader_readQuad_80 : decode prog_8_method_3_code 80 = .ok (.aload_n 2, 1) := F_Reader_readQuad_55.2.2.2.2.2.2.2.2.2.2.2.2.2.2.2.2.1
theorem d_Reader_readQuad_81 : decode prog_8_method_3_code 81 = .ok (.getfield 109, 3) := F_Reader_readQuad_55.2.2.2.2.2.2.2.2.2.2.2.2.2.2.2.2.2.1
theorem d_Reader_readQuad_84 : decode prog_8_method_3_code 84 = .ok (.iload_n 3, 1) := F_Reader_readQuad_55.2.2.2.2.2.2.2.2.2.2.2.2.2.2.2.2.2.2.1
theorem d_Reader_readQuad_85 : decode prog_8_method_3_code 85 = .ok (.aaload, 1) := F_Reader_readQuad_55.2.2.2.2.2.2.2.2.2.2.2.2.2.2.2.2.2.2.2.1
theorem d_Reader_readQuad_86 : decode prog_8_method_3_code 86 = .ok (.invokestatic 115, 3) := F_Reader_readQuad_55.2.2.2.2.2.2.2.2.2.2.2.2.2.2.2.2.2.2.2.2.1
theorem d_Reader_readQuad_89 : decode prog_8_method_3_code 89 = .ok (.iinc 3 (1), 3) := F_Reader_readQuad_55.2.2.2.2.2.2.2.2.2.2.2.2.2.2.2.2.2.2.2.2.2.1
theorem d_Reader_readQuad_92 : decode prog_8_method_3_code 92 = .ok (.goto (-42), 3) := F_Reader_readQuad_55.2.2.2.2.2.2.2.2.2.2.2.2.2.2.2.2.2.2.2.2.2.2.1
theorem d_Reader_readQuad_95 : decode prog_8_method_3_code 95 = .ok (.aload_n 0, 1) := F_Reader_readQuad_55.2.2.2.2.2.2.2.2.2.2.2.2.2.2.2.2.2.2.2.2.2.2.2.1
theorem d_Reader_readQuad_96 : decode prog_8_method_3_code 96 = .ok (.getfield 69, 3) := F_Reader_readQuad_55.2.2.2.2.2.2.2.2.2.2.2.2.2.2.2.2.2.2.2.2.2.2.2.2.1
theorem d_Reader_readQuad_99 : decode prog_8_method_3_code 99 = .ok (.iconst 1, 1) := F_Reader_readQuad_55.2.2.2.2.2.2.2.2.2.2.2.2.2.2.2.2.2.2.2.2.2.2.2.2.2.1
theorem d_Reader_readQuad_100 : decode prog_8_method_3_code 100 = .ok (.if_icmp .eq (9), 3) := F_Reader_readQuad_55.2.2.2.2.2.2.2.2.2.2.2.2.2.2.2.2.2.2.2.2.2.2.2.2.2.2.1
theorem d_Reader_readQuad_103 : decode prog_8_method_3_code 103 = .ok (.aload_n 0, 1) := F_Reader_readQuad_55.2.2.2.2.2.2.2.2.2.2.2.2.2.2.2.2.2.2.2.2.2.2.2.2.2.2.2.1
theorem d_Reader_readQuad_104 : decode prog_8_method_3_code 104 = .ok (.iconst 1, 1) := F_Reader_readQuad_55.2.2.2.2.2.2.2.2.2.2.2.2.2.2.2.2.2.2.2.2.2.2.2.2.2.2.2.2.1
theorem d_Reader_readQuad_105 : decode prog_8_method_3_code 105 = .ok (.invokevirtual 88, 3) := F_Reader_readQuad_55.2.2.2.2.2.2.2.2.2.2.2.2.2.2.2.2.2.2.2.2.2.2.2.2.2.2.2.2.2.1
theorem d_Reader_readQuad_108 : decode prog_8_method_3_code 108 = .ok (.ireturn, 1) := F_Reader_readQuad_55.2.2.2.2.2.2.2.2.2.2.2.2.2.2.2.2.2.2.2.2.2.2.2.2.2.2.2.2.2.2.1
theorem d_Reader_readQuad_109 : decode prog_8_method_3_code 109 = .ok (.aload_n 2, 1) := F_Reader_readQuad_55.2.2.2.2.2.2.2.2.2.2.2.2.2.2.2.2.2.2.2.2.2.2.2.2.2.2.2.2.2.2.2.1
theorem F_Reader_readQuad_110 : Jvm.Free.DS.Facts prog_8_method_3_code 110 [(.invokevirtual 121, 3), (.ifCond .eq (9), 3), (.aload_n 0, 1), (.iconst 4, 1), (.invokevirtual 88, 3), (.ireturn, 1), (.aload_n 0, 1), (.getfield 37, 3), (.dup, 1), (.getfield 94, 3), (.iconst 1, 1), (.iadd, 1), (.putfield 94, 3), (.aload_n 0, 1), (.invokevirtual 66, 3), (.iconst 1, 1), (.ireturn, 1)] := Jvm.Free.DS.facts 110 _ (by decide +kernel) (by decide +kernel)
theorem d_Reader_readQuad_110 : decode prog_8_method_3_code 110 = .ok (.invokevirtual 121, 3) := F_Reader_readQuad_110.1
theorem d_Reader_readQuad_113 : decode prog_8_method_3_code 113 = .ok (.ifCond .eq (9), 3) := F_Reader_readQuad_110.2.1
theorem d_Reader_readQuad_116 : decode prog_8_method_3_code 116 = .ok (.aload_n 0, 1) := F_Reader_readQuad_110.2.2.1
theorem d_Reader_readQuad_117 : decode prog_8_method_3_code 117 = .ok (.iconst 4, 1) := F_Reader_readQuad_110.2.2.2.1
theorem d_Reader_readQuad_118 : decode prog_8_method_3_code 118 = .ok (.invokevirtual 88, 3) := F_Reader_readQuad_110.2.2.2.2.1
theorem d_Reader_readQuad_121 : decode prog_8_method_3_code 121 = .ok (.ireturn, 1) := F_Reader_readQuad_110.2.2.2.2.2.1
theorem d_Reader_readQuad_122 : decode prog_8_method_3_code 122 = .ok (.aload_n 0, 1) := F_Reader_readQuad_110.2.2.2.2.2.2.1
theorem d_Reader_readQuad_123 : decode prog_8_method_3_code 123 = .ok (.getfield 37, 3) := F_Reader_readQuad_110.2.2.2.2.2.2.2.1
theorem d_Reader_readQuad_126 : decode prog_8_method_3_code 126 = .ok (.dup, 1) := F_Reader_readQuad_110.2.2.2.2.2.2.2.2.1
theorem d_Reader_readQuad_127 : decode prog_8_method_3_code 127 = .ok (.getfield 94, 3) := F_Reader_readQuad_110.2.2.2.2.2.2.2.2.2.1
theorem d_Reader_readQuad_130 : decode prog_8_method_3_code 130 = .ok (.iconst 1, 1) := F_Reader_readQuad_110.2.2.2.2.2.2.2.2.2.2.1
theorem d_Reader_readQuad_131 : decode prog_8_method_3_code 131 = .ok (.iadd, 1) := F_Reader_readQuad_110.2.2.2.2.2.2.2.2.2.2.2.1
theorem d_Reader_readQuad_132 : decode prog_8_method_3_code 132 = .ok (.putfield 94, 3) := F_Reader_readQuad_110.2.2.2.2.2.2.2.2.2.2.2.2.1
theorem d_Reader_readQuad_135 : decode prog_8_method_3_code 135 = .ok (.aload_n 0, 1) := F_Reader_readQuad_110.2.2.2.2.2.2.2.2.2.2.2.2.2.1
theorem d_Reader_readQuad_136 : decode prog_8_method_3_code 136 = .ok (.invokevirtual 66, 3) := F_Reader_readQuad_110.2.2.2.2.2.2.2.2.2.2.2.2.2.2.1
theorem d_Reader_readQuad_139 : decode prog_8_method_3_code 139 = .ok (.iconst 1, 1) := F_Reader_readQuad_110.2.2.2.2.2.2.2.2.2.2.2.2.2.2.2.1
theorem d_Reader_readQuad_140 : decode prog_8_method_3_code 140 = .ok (.ireturn, 1) := F_Reader_readQuad_110.2.2.2.2.2.2.2.2.2.2.2.2.2.2.2.2.1
theorem F_Reader_refuse_0 : Jvm.Free.DS.Facts prog_8_method_10_code 0 [(.aload_n 0, 1), (.iload_n 1, 1), (.aload_n 0, 1), (.getfield 167, 3), (.invokevirtual 170, 3), (.ireturn, 1)] := Jvm.Free.DS.facts 0 _ (by decide +kernel) (by decide +kernel)
theorem d_Reader_refuse_0 : decode prog_8_method_10_code 0 = .ok (.aload_n 0, 1) := F_Reader_refuse_0.1
theorem d_Reader_refuse_1 : decode prog_8_method_10_code 1 = .ok (.iload_n 1, 1) := F_Reader_refuse_0.2.1
theorem d_Reader_refuse_2 : decode prog_8_method_10_code 2 = .ok (.aload_n 0, 1) := F_Reader_refuse_0.2.2.1
theorem d_Reader_refuse_3 : decode prog_8_method_10_code 3 = .ok (.getfield 167, 3) := F_Reader_refuse_0.2.2.2.1
theorem d_Reader_refuse_6 : decode prog_8_method_10_code 6 = .ok (.invokevirtual 170, 3) := F_Reader_refuse_0.2.2.2.2.1
theorem d_Reader_refuse_9 : decode prog_8_method_10_code 9 = .ok (.ireturn, 1) := F_Reader_refuse_0.2.2.2.2.2.1
theorem F_Reader_refuseAt_0 : Jvm.Free.DS.Facts prog_8_method_11_code 0 [(.aload_n 0, 1), (.iload_n 1, 1), (.putfield 63, 3), (.aload_n 0, 1), (.iload_n 2, 1), (.putfield 25, 3), (.iconst 0, 1), (.ireturn, 1)] := Jvm.Free.DS.facts 0 _ (by decide +kernel) (by decide +kernel)
theorem d_Reader_refuseAt_0 : decode prog_8_method_11_code 0 = .ok (.aload_n 0, 1) := F_Reader_refuseAt_0.1
theorem d_Reader_refuseAt_1 : decode prog_8_method_11_code 1 = .ok (.iload_n 1, 1) := F_Reader_refuseAt_0.2.1
theorem d_Reader_refuseAt_2 : decode prog_8_method_11_code 2 = .ok (.putfield 63, 3) := F_Reader_refuseAt_0.2.2.1
theorem d_Reader_refuseAt_5 : decode prog_8_method_11_code 5 = .ok (.aload_n 0, 1) := F_Reader_refuseAt_0.2.2.2.1
theorem d_Reader_refuseAt_6 : decode prog_8_method_11_code 6 = .ok (.iload_n 2, 1) := F_Reader_refuseAt_0.2.2.2.2.1
theorem d_Reader_refuseAt_7 : decode prog_8_method_11_code 7 = .ok (.putfield 25, 3) := F_Reader_refuseAt_0.2.2.2.2.2.1
theorem d_Reader_refuseAt_10 : decode prog_8_method_11_code 10 = .ok (.iconst 0, 1) := F_Reader_refuseAt_0.2.2.2.2.2.2.1
theorem d_Reader_refuseAt_11 : decode prog_8_method_11_code 11 = .ok (.ireturn, 1) := F_Reader_refuseAt_0.2.2.2.2.2.2.2.1
theorem F_Reader_readName_0 : Jvm.Free.DS.Facts prog_8_method_6_code 0 [(.aload_n 0, 1), (.invokevirtual 157, 3), (.ifCond .ne (9), 3), (.aload_n 0, 1), (.iconst 1, 1), (.invokevirtual 88, 3), (.ireturn, 1), (.aload_n 0, 1), (.aload_n 1, 1), (.iload_n 2, 1), (.invokevirtual 160, 3), (.iconst (-1), 1), (.if_icmp .eq (9), 3), (.aload_n 0, 1), (.iconst 3, 1), (.invokevirtual 88, 3), (.ireturn, 1), (.iload_n 2, 1), (.aload_n 1, 1), (.arraylength, 1), (.if_icmp .ge (10), 3), (.aload_n 1, 1), (.iload_n 2, 1), (.aload_n 0, 1), (.getfield 164, 3), (.iastore, 1), (.aload_n 0, 1), (.invokevirtual 66, 3), (.iconst 1, 1), (.ireturn, 1)] := Jvm.Free.DS.facts 0 _ (by decide +kernel) (by decide +kernel)
theorem d_Reader_readName_0 : decode prog_8_method_6_code 0 = .ok (.aload_n 0, 1) := F_Reader_readName_0.1
theorem d_Reader_readName_1 : decode prog_8_method_6_code 1 = .ok (.invokevirtual 157, 3) := F_Reader_readName_0.2.1
theorem d_Reader_readName_4 : decode prog_8_method_6_code 4 = .ok (.ifCond .ne (9), 3) := F_Reader_readName_0.2.2.1
theorem d_Reader_readName_7 : decode prog_8_method_6_code 7 = .ok (.aload_n 0, 1) := F_Reader_readName_0.2.2.2.1
theorem d_Reader_readName_8 : decode prog_8_method_6_code 8 = .ok (.iconst 1, 1) := F_Reader_readName_0.2.2.2.2.1
theorem d_Reader_readName_9 : decode prog_8_method_6_code 9 = .ok (.invokevirtual 88, 3) := F_Reader_readName_0.2.2.2.2.2.1
theorem d_Reader_readName_12 : decode prog_8_method_6_code 12 = .ok (.ireturn, 1) := F_Reader_readName_0.2.2.2.2.2.2.1
theorem d_Reader_readName_13 : decode prog_8_method_6_code 13 = .ok (.aload_n 0, 1) := F_Reader_readName_0.2.2.2.2.2.2.2.1
theorem d_Reader_readName_14 : decode prog_8_method_6_code 14 = .ok (.aload_n 1, 1) := F_Reader_readName_0.2.2.2.2.2.2.2.2.1
theorem d_Reader_readName_15 : decode prog_8_method_6_code 15 = .ok (.iload_n 2, 1) := F_Reader_readName_0.2.2.2.2.2.2.2.2.2.1
theorem d_Reader_readName_16 : decode prog_8_method_6_code 16 = .ok (.invokevirtual 160, 3) := F_Reader_readName_0.2.2.2.2.2.2.2.2.2.2.1
theorem d_Reader_readName_19 : decode prog_8_method_6_code 19 = .ok (.iconst (-1), 1) := F_Reader_readName_0.2.2.2.2.2.2.2.2.2.2.2.1
theorem d_Reader_readName_20 : decode prog_8_method_6_code 20 = .ok (.if_icmp .eq (9), 3) := F_Reader_readName_0.2.2.2.2.2.2.2.2.2.2.2.2.1
theorem d_Reader_readName_23 : decode prog_8_method_6_code 23 = .ok (.aload_n 0, 1) := F_Reader_readName_0.2.2.2.2.2.2.2.2.2.2.2.2.2.1
theorem d_Reader_readName_24 : decode prog_8_method_6_code 24 = .ok (.iconst 3, 1) := F_Reader_readName_0.2.2.2.2.2.2.2.2.2.2.2.2.2.2.1
theorem d_Reader_readName_25 : decode prog_8_method_6_code 25 = .ok (.invokevirtual 88, 3) := F_Reader_readName_0.2.2.2.2.2.2.2.2.2.2.2.2.2.2.2.1
theorem d_Reader_readName_28 : decode prog_8_method_6_code 28 = .ok (.ireturn, 1) := F_Reader_readName_0.2.2.2.2.2.2.2.2.2.2.2.2.2.2.2.2.1
theorem d_Reader_readName_29 : decode prog_8_method_6_code 29 = .ok (.iload_n 2, 1) := F_Reader_readName_0.2.2.2.2.2.2.2.2.2.2.2.2.2.2.2.2.2.1
theorem d_Reader_readName_30 : decode prog_8_method_6_code 30 = .ok (.aload_n 1, 1) := F_Reader_readName_0.2.2.2.2.2.2.2.2.2.2.2.2.2.2.2.2.2.2.1
theorem d_Reader_readName_31 : decode prog_8_method_6_code 31 = .ok (.arraylength, 1) := F_Reader_readName_0.2.2.2.2.2.2.2.2.2.2.2.2.2.2.2.2.2.2.2.1
theorem d_Reader_readName_32 : decode prog_8_method_6_code 32 = .ok (.if_icmp .ge (10), 3) := F_Reader_readName_0.2.2.2.2.2.2.2.2.2.2.2.2.2.2.2.2.2.2.2.2.1
theorem d_Reader_readName_35 : decode prog_8_method_6_code 35 = .ok (.aload_n 1, 1) := F_Reader_readName_0.2.2.2.2.2.2.2.2.2.2.2.2.2.2.2.2.2.2.2.2.2.1
theorem d_Reader_readName_36 : decode prog_8_method_6_code 36 = .ok (.iload_n 2, 1) := F_Reader_readName_0.2.2.2.2.2.2.2.2.2.2.2.2.2.2.2.2.2.2.2.2.2.2.1
theorem d_Reader_readName_37 : decode prog_8_method_6_code 37 = .ok (.aload_n 0, 1) := F_Reader_readName_0.2.2.2.2.2.2.2.2.2.2.2.2.2.2.2.2.2.2.2.2.2.2.2.1
theorem d_Reader_readName_38 : decode prog_8_method_6_code 38 = .ok (.getfield 164, 3) := F_Reader_readName_0.2.2.2.2.2.2.2.2.2.2.2.2.2.2.2.2.2.2.2.2.2.2.2.2.1
theorem d_Reader_readName_41 : decode prog_8_method_6_code 41 = .ok (.iastore, 1) := F_Reader_readName_0.2.2.2.2.2.2.2.2.2.2.2.2.2.2.2.2.2.2.2.2.2.2.2.2.2.1
theorem d_Reader_readName_42 : decode prog_8_method_6_code 42 = .ok (.aload_n 0, 1) := F_Reader_readName_0.2.2.2.2.2.2.2.2.2.2.2.2.2.2.2.2.2.2.2.2.2.2.2.2.2.2.1
theorem d_Reader_readName_43 : decode prog_8_method_6_code 43 = .ok (.invokevirtual 66, 3) := F_Reader_readName_0.2.2.2.2.2.2.2.2.2.2.2.2.2.2.2.2.2.2.2.2.2.2.2.2.2.2.2.1
theorem d_Reader_readName_46 : decode prog_8_method_6_code 46 = .ok (.iconst 1, 1) := F_Reader_readName_0.2.2.2.2.2.2.2.2.2.2.2.2.2.2.2.2.2.2.2.2.2.2.2.2.2.2.2.2.1
theorem d_Reader_readName_47 : decode prog_8_method_6_code 47 = .ok (.ireturn, 1) := F_Reader_readName_0.2.2.2.2.2.2.2.2.2.2.2.2.2.2.2.2.2.2.2.2.2.2.2.2.2.2.2.2.2.1
theorem F_Reader_isName_0 : Jvm.Free.DS.Facts prog_8_method_13_code 0 [(.aload_n 0, 1), (.getfield 69, 3), (.iconst 2, 1), (.if_icmp .ne (35), 3), (.aload_n 0, 1), (.getfield 164, 3), (.ldc 72, 2), (.if_icmp .eq (26), 3), (.aload_n 0, 1), (.getfield 164, 3), (.sipush (9520), 3), (.if_icmp .eq (16), 3), (.aload_n 0, 1), (.getfield 164, 3), (.ldc 84, 2), (.if_icmp .eq (7), 3), (.iconst 1, 1), (.goto (4), 3), (.iconst 0, 1), (.ireturn, 1)] := Jvm.Free.DS.facts 0 _ (by decide +kernel) (by decide +kernel)
theorem d_Reader_isName_0 : decode prog_8_method_13_code 0 = .ok (.aload_n 0, 1) := F_Reader_isName_0.1
theorem d_Reader_isName_1 : decode prog_8_method_13_code 1 = .ok (.getfield 69, 3) := F_Reader_isName_0.2.1
theorem d_Reader_isName_4 : decode prog_8_method_13_code 4 = .ok (.iconst 2, 1) := F_Reader_isName_0.2.2.1
theorem d_Reader_isName_5 : decode prog_8_method_13_code 5 = .ok (.if_icmp .ne (35), 3) := F_Reader_isName_0.2.2.2.1
theorem d_Reader_isName_8 : decode prog_8_method_13_code 8 = .ok (.aload_n 0, 1) := F_Reader_isName_0.2.2.2.2.1
theorem d_Reader_isName_9 : decode prog_8_method_13_code 9 = .ok (.getfield 164, 3) := F_Reader_isName_0.2.2.2.2.2.1
theorem d_Reader_isName_12 : decode prog_8_method_13_code 12 = .ok (.ldc 72, 2) := F_Reader_isName_0.2.2.2.2.2.2.1
theorem d_Reader_isName_14 : decode prog_8_method_13_code 14 = .ok (.if_icmp .eq (26), 3) := F_Reader_isName_0.2.2.2.2.2.2.2.1
theorem d_Reader_isName_17 : decode prog_8_method_13_code 17 = .ok (.aload_n 0, 1) := F_Reader_isName_0.2.2.2.2.2.2.2.2.1
theorem d_Reader_isName_18 : decode prog_8_method_13_code 18 = .ok (.getfield 164, 3) := F_Reader_isName_0.2.2.2.2.2.2.2.2.2.1
theorem d_Reader_isName_21 : decode prog_8_method_13_code 21 = .ok (.sipush (9520), 3) := F_Reader_isName_0.2.2.2.2.2.2.2.2.2.2.1
theorem d_Reader_isName_24 : decode prog_8_method_13_code 24 = .ok (.if_icmp .eq (16), 3) := F_Reader_isName_0.2.2.2.2.2.2.2.2.2.2.2.1
theorem d_Reader_isName_27 : decode prog_8_method_13_code 27 = .ok (.aload_n 0, 1) := F_Reader_isName_0.2.2.2.2.2.2.2.2.2.2.2.2.1
theorem d_Reader_isName_28 : decode prog_8_method_13_code 28 = .ok (.getfield 164, 3) := F_Reader_isName_0.2.2.2.2.2.2.2.2.2.2.2.2.2.1
theorem d_Reader_isName_31 : decode prog_8_method_13_code 31 = .ok (.ldc 84, 2) := F_Reader_isName_0.2.2.2.2.2.2.2.2.2.2.2.2.2.2.1
theorem d_Reader_isName_33 : decode prog_8_method_13_code 33 = .ok (.if_icmp .eq (7), 3) := F_Reader_isName_0.2.2.2.2.2.2.2.2.2.2.2.2.2.2.2.1
theorem d_Reader_isName_36 : decode prog_8_method_13_code 36 = .ok (.iconst 1, 1) := F_Reader_isName_0.2.2.2.2.2.2.2.2.2.2.2.2.2.2.2.2.1
theorem d_Reader_isName_37 : decode prog_8_method_13_code 37 = .ok (.goto (4), 3) := F_Reader_isName_0.2.2.2.2.2.2.2.2.2.2.2.2.2.2.2.2.2.1
theorem d_Reader_isName_40 : decode prog_8_method_13_code 40 = .ok (.iconst 0, 1) := F_Reader_isName_0.2.2.2.2.2.2.2.2.2.2.2.2.2.2.2.2.2.2.1
theorem d_Reader_isName_41 : decode prog_8_method_13_code 41 = .ok (.ireturn, 1) := F_Reader_isName_0.2.2.2.2.2.2.2.2.2.2.2.2.2.2.2.2.2.2.2.1
theorem F_Reader_placeAmong_0 : Jvm.Free.DS.Facts prog_8_method_8_code 0 [(.iconst 0, 1), (.istore_n 3, 1), (.iload_n 3, 1), (.iload_n 2, 1), (.if_icmp .ge (27), 3), (.iload_n 3, 1), (.aload_n 1, 1), (.arraylength, 1), (.if_icmp .ge (21), 3), (.aload_n 1, 1), (.iload_n 3, 1), (.iaload, 1), (.aload_n 0, 1), (.getfield 164, 3), (.if_icmp .ne (5), 3), (.iload_n 3, 1), (.ireturn, 1), (.iinc 3 (1), 3), (.goto (-26), 3), (.iconst (-1), 1), (.ireturn, 1)] := Jvm.Free.DS.facts 0 _ (by decide +kernel) (by decide +kernel)
theorem d_Reader_placeAmong_0 : decode prog_8_method_8_code 0 = .ok (.iconst 0, 1) := F_Reader_placeAmong_0.1
theorem d_Reader_placeAmong_1 : decode prog_8_method_8_code 1 = .ok (.istore_n 3, 1) := F_Reader_placeAmong_0.2.1
theorem d_Reader_placeAmong_2 : decode prog_8_method_8_code 2 = .ok (.iload_n 3, 1) := F_Reader_placeAmong_0.2.2.1
theorem d_Reader_placeAmong_3 : decode prog_8_method_8_code 3 = .ok (.iload_n 2, 1) := F_Reader_placeAmong_0.2.2.2.1
theorem d_Reader_placeAmong_4 : decode prog_8_method_8_code 4 = .ok (.if_icmp .ge (27), 3) := F_Reader_placeAmong_0.2.2.2.2.1
theorem d_Reader_placeAmong_7 : decode prog_8_method_8_code 7 = .ok (.iload_n 3, 1) := F_Reader_placeAmong_0.2.2.2.2.2.1
theorem d_Reader_placeAmong_8 : decode prog_8_method_8_code 8 = .ok (.aload_n 1, 1) := F_Reader_placeAmong_0.2.2.2.2.2.2.1
theorem d_Reader_placeAmong_9 : decode prog_8_method_8_code 9 = .ok (.arraylength, 1) := F_Reader_placeAmong_0.2.2.2.2.2.2.2.1
theorem d_Reader_placeAmong_10 : decode prog_8_method_8_code 10 = .ok (.if_icmp .ge (21), 3) := F_Reader_placeAmong_0.2.2.2.2.2.2.2.2.1
theorem d_Reader_placeAmong_13 : decode prog_8_method_8_code 13 = .ok (.aload_n 1, 1) := F_Reader_placeAmong_0.2.2.2.2.2.2.2.2.2.1
theorem d_Reader_placeAmong_14 : decode prog_8_method_8_code 14 = .ok (.iload_n 3, 1) := F_Reader_placeAmong_0.2.2.2.2.2.2.2.2.2.2.1
theorem d_Reader_placeAmong_15 : decode prog_8_method_8_code 15 = .ok (.iaload, 1) := F_Reader_placeAmong_0.2.2.2.2.2.2.2.2.2.2.2.1
theorem d_Reader_placeAmong_16 : decode prog_8_method_8_code 16 = .ok (.aload_n 0, 1) := F_Reader_placeAmong_0.2.2.2.2.2.2.2.2.2.2.2.2.1
theorem d_Reader_placeAmong_17 : decode prog_8_method_8_code 17 = .ok (.getfield 164, 3) := F_Reader_placeAmong_0.2.2.2.2.2.2.2.2.2.2.2.2.2.1
theorem d_Reader_placeAmong_20 : decode prog_8_method_8_code 20 = .ok (.if_icmp .ne (5), 3) := F_Reader_placeAmong_0.2.2.2.2.2.2.2.2.2.2.2.2.2.2.1
theorem d_Reader_placeAmong_23 : decode prog_8_method_8_code 23 = .ok (.iload_n 3, 1) := F_Reader_placeAmong_0.2.2.2.2.2.2.2.2.2.2.2.2.2.2.2.1
theorem d_Reader_placeAmong_24 : decode prog_8_method_8_code 24 = .ok (.ireturn, 1) := F_Reader_placeAmong_0.2.2.2.2.2.2.2.2.2.2.2.2.2.2.2.2.1
theorem d_Reader_placeAmong_25 : decode prog_8_method_8_code 25 = .ok (.iinc 3 (1), 3) := F_Reader_placeAmong_0.2.2.2.2.2.2.2.2.2.2.2.2.2.2.2.2.2.1
theorem d_Reader_placeAmong_28 : decode prog_8_method_8_code 28 = .ok (.goto (-26), 3) := F_Reader_placeAmong_0.2.2.2.2.2.2.2.2.2.2.2.2.2.2.2.2.2.2.1
theorem d_Reader_placeAmong_31 : decode prog_8_method_8_code 31 = .ok (.iconst (-1), 1) := F_Reader_placeAmong_0.2.2.2.2.2.2.2.2.2.2.2.2.2.2.2.2.2.2.2.1
theorem d_Reader_placeAmong_32 : decode prog_8_method_8_code 32 = .ok (.ireturn, 1) := F_Reader_placeAmong_0.2.2.2.2.2.2.2.2.2.2.2.2.2.2.2.2.2.2.2.2.1
theorem F_Reader_readNumbers_0 : Jvm.Free.DS.Facts prog_8_method_9_code 0 [(.iconst 0, 1), (.istore_n 3, 1), (.iload_n 3, 1), (.iload_n 1, 1), (.if_icmp .ge (107), 3), (.iload_n 3, 1), (.aload_n 0, 1), (.getfield 18, 3), (.arraylength, 1), (.if_icmp .ge (98), 3), (.aload_n 0, 1), (.getfield 167, 3), (.istore 4, 2), (.aload_n 0, 1), (.getfield 69, 3), (.iconst 4, 1), (.if_icmp .ne (7), 3), (.iconst 1, 1), (.goto (4), 3), (.iconst 0, 1), (.istore 5, 2), (.iload 5, 2), (.ifCond .eq (7), 3), (.aload_n 0, 1), (.invokevirtual 66, 3), (.aload_n 0, 1), (.getfield 69, 3), (.iconst 3, 1), (.if_icmp .eq (9), 3), (.aload_n 0, 1), (.iconst 1, 1), (.invokevirtual 88, 3)] := Jvm.Free.DS.facts 0 _ (by decide +kernel) (by decide +kernel)
theorem d_Reader_readNumbers_0 : decode prog_8_method_9_code 0 = .ok (.iconst 0, 1) := F_Reader_readNumbers_0.1
theorem d_Reader_readNumbers_1 : decode prog_8_method_9_code 1 = .ok (.istore_n 3, 1) := F_Reader_readNumbers_0.2.1
theorem d_Reader_readNumbers_2 : decode prog_8_method_9_code 2 = .ok (.iload_n 3, 1) := F_Reader_readNumbers_0.2.2.1
theorem d_Reader_readNumbers_3 : decode prog_8_method_9_code 3 = .ok (.iload_n 1, 1) := F_Reader_readNumbers_0.2.2.2.1
theorem d_Reader_readNumbers_4 : decode prog_8_method_9_code 4 = .ok (.if_icmp .ge (107), 3) := F_Reader_readNumbers_0.2.2.2.2.1
theorem d_Reader_readNumbers_7 : decode prog_8_method_9_code 7 = .ok (.iload_n 3, 1) := F_Reader_readNumbers_0.2.2.2.2.2.1
theorem d_Reader_readNumbers_8 : decode prog_8_method_9_code 8 = .ok (.aload_n 0, 1) := F_Reader_readNumbers_0.2.2.2.2.2.2.1
theorem d_Reader_readNumbers_9 : decode prog_8_method_9_code 9 = .ok (.getfield 18, 3) := F_Reader_readNumbers_0.2.2.2.2.2.2.2.1
theorem d_Reader_readNumbers_12 : decode prog_8_method_9_code 12 = .ok (.arraylength, 1) := F_Reader_readNumbers_0.2.2.2.2.2.2.2.2.1
theorem d_Reader_readNumbers_13 : decode prog_8_method_9_code 13 = .ok (.if_icmp .ge (98), 3) := F_Reader_readNumbers_0.2.2.2.2.2.2.2.2.2.1
theorem d_Reader_readNumbers_16 : decode prog_8_method_9_code 16 = .ok (.aload_n 0, 1) := F_Reader_readNumbers_0.2.2.2.2.2.2.2.2.2.2.1
theorem d_Reader_readNumbers_17 : decode prog_8_method_9_code 17 = .ok (.getfield 167, 3) := F_Reader_readNumbers_0.2.2.2.2.2.2.2.2.2.2.2.1
theorem d_Reader_readNumbers_20 : decode prog_8_method_9_code 20 = .ok (.istore 4, 2) := F_Reader_readNumbers_0.2.2.2.2.2.2.2.2.2.2.2.2.1
theorem d_Reader_readNumbers_22 : decode prog_8_method_9_code 22 = .ok (.aload_n 0, 1) := F_Reader_readNumbers_0.2.2.2.2.2.2.2.2.2.2.2.2.2.1
theorem d_Reader_readNumbers_23 : decode prog_8_method_9_code 23 = .ok (.getfield 69, 3) := F_Reader_readNumbers_0.2.2.2.2.2.2.2.2.2.2.2.2.2.2.1
theorem d_Reader_readNumbers_26 : decode prog_8_method_9_code 26 = .ok (.iconst 4, 1) := F_Reader_readNumbers_0.2.2.2.2.2.2.2.2.2.2.2.2.2.2.2.1
theorem d_Reader_readNumbers_27 : decode prog_8_method_9_code 27 = .ok (.if_icmp .ne (7), 3) := F_Reader_readNumbers_0.2.2.2.2.2.2.2.2.2.2.2.2.2.2.2.2.1
theorem d_Reader_readNumbers_30 : decode prog_8_method_9_code 30 = .ok (.iconst 1, 1) := F_Reader_readNumbers_0.2.2.2.2.2.2.2.2.2.2.2.2.2.2.2.2.2.1
theorem d_Reader_readNumbers_31 : decode prog_8_method_9_code 31 = .ok (.goto (4), 3) := F_Reader_readNumbers_0.2.2.2.2.2.2.2.2.2.2.2.2.2.2.2.2.2.2.1
theorem d_Reader_readNumbers_34 : decode prog_8_method_9_code 34 = .ok (.iconst 0, 1) := F_Reader_readNumbers_0.2.2.2.2.2.2.2.2.2.2.2.2.2.2.2.2.2.2.2.1
theorem d_Reader_readNumbers_35 : decode prog_8_method_9_code 35 = .ok (.istore 5, 2) := F_Reader_readNumbers_0.2.2.2.2.2.2.2.2.2.2.2.2.2.2.2.2.2.2.2.2.1
theorem d_Reader_readNumbers_37 : decode prog_8_method_9_code 37 = .ok (.iload 5, 2) := F_Reader_readNumbers_0.2.2.2.2.2.2.2.2.2.2.2.2.2.2.2.2.2.2.2.2.2.1
theorem d_Reader_readNumbers_39 : decode prog_8_method_9_code 39 = .ok (.ifCond .eq (7), 3) := F_Reader_readNumbers_0.2.2.2.2.2.2.2.2.2.2.2.2.2.2.2.2.2.2.2.2.2.2.1
theorem d_Reader_readNumbers_42 : decode prog_8_method_9_code 42 = .ok (.aload_n 0, 1) := F_Reader_readNumbers_0.2.2.2.2.2.2.2.2.2.2.2.2.2.2.2.2.2.2.2.2.2.2.2.1
theorem d_Reader_readNumbers_43 : decode prog_8_method_9_code 43 = .ok (.invokevirtual 66, 3) := F_Reader_readNumbers_0.2.2.2.2.2.2.2.2.2.2.2.2.2.2.2.2.2.2.2.2.2.2.2.2.1
theorem d_Reader_readNumbers_46 : decode prog_8_method_9_code 46 = .ok (.aload_n 0, 1) := F_Reader_readNumbers_0.2.2.2.2.2.2.2.2.2.2.2.2.2.2.2.2.2.2.2.2.2.2.2.2.2.1
theorem d_Reader_readNumbers_47 : decode prog_8_method_9_code 47 = .ok (.getfield 69, 3) := F_Reader_readNumbers_0.2.2.2.2.2.2.2.2.2.2.2.2.2.2.2.2.2.2.2.2.2.2.2.2.2.2.1
theorem d_Reader_readNumbers_50 : decode prog_8_method_9_code 50 = .ok (.iconst 3, 1) := F_Reader_readNumbers_0.2.2.2.2.2.2.2.2.2.2.2.2.2.2.2.2.2.2.2.2.2.2.2.2.2.2.2.1
theorem d_Reader_readNumbers_51 : decode prog_8_method_9_code 51 = .ok (.if_icmp .eq (9), 3) := F_Reader_readNumbers_0.2.2.2.2.2.2.2.2.2.2.2.2.2.2.2.2.2.2.2.2.2.2.2.2.2.2.2.2.1
theorem d_Reader_readNumbers_54 : decode prog_8_method_9_code 54 = .ok (.aload_n 0, 1) := F_Reader_readNumbers_0.2.2.2.2.2.2.2.2.2.2.2.2.2.2.2.2.2.2.2.2.2.2.2.2.2.2.2.2.2.1
theorem d_Reader_readNumbers_55 : decode prog_8_method_9_code 55 = .ok (.iconst 1, 1) := F_Reader_readNumbers_0.2.2.2.2.2.2.2.2.2.2.2.2.2.2.2.2.2.2.2.2.2.2.2.2.2.2.2.2.2.2.1
theorem d_Reader_readNumbers_56 : decode prog_8_method_9_code 56 = .ok (.invokevirtual 88, 3) := F_Reader_readNumbers_0.2.2.2.2.2.2.2.2.2.2.2.2.2.2.2.2.2.2.2.2.2.2.2.2.2.2.2.2.2.2.2.1
theorem F_Reader_readNumbers_59 : Jvm.Free.DS.Facts prog_8_method_9_code 59 [(.ireturn, 1), (.aload_n 0, 1), (.getfield 164, 3), (.iload_n 2, 1), (.if_icmp .le (11), 3), (.aload_n 0, 1), (.iconst 2, 1), (.iload 4, 2), (.invokevirtual 170, 3), (.ireturn, 1), (.aload_n 0, 1), (.getfield 18, 3), (.iload_n 3, 1), (.iload 5, 2), (.ifCond .eq (12), 3), (.aload_n 0, 1), (.getfield 164, 3), (.ineg, 1), (.i2l, 1), (.goto (8), 3), (.aload_n 0, 1), (.getfield 164, 3), (.i2l, 1), (.lastore, 1), (.aload_n 0, 1), (.invokevirtual 66, 3), (.iinc 3 (1), 3), (.goto (-106), 3), (.iconst 1, 1), (.ireturn, 1)] := Jvm.Free.DS.facts 59 _ (by decide +kernel) (by decide +kernel)
theorem d_Reader_readNumbers_59 : decode prog_8_method_9_code 59 = .ok (.ireturn, 1) := F_Reader_readNumbers_59.1
theorem d_Reader_readNumbers_60 : decode prog_8_method_9_code 60 = .ok (.aload_n 0, 1) := F_Reader_readNumbers_59.2.1
theorem d_Reader_readNumbers_61 : decode prog_8_method_9_code 61 = .ok (.getfield 164, 3) := F_Reader_readNumbers_59.2.2.1
theorem d_Reader_readNumbers_64 : decode prog_8_method_9_code 64 = .ok (.iload_n 2, 1) := F_Reader_readNumbers_59.2.2.2.1
theorem d_Reader_readNumbers_65 : decode prog_8_method_9_code 65 = .ok (.if_icmp .le (11), 3) := F_Reader_readNumbers_59.2.2.2.2.1
theorem d_Reader_readNumbers_68 : decode prog_8_method_9_code 68 = .ok (.aload_n 0, 1) := F_Reader_readNumbers_59.2.2.2.2.2.1
theorem d_Reader_readNumbers_69 : decode prog_8_method_9_code 69 = .ok (.iconst 2, 1) := F_Reader_readNumbers_59.2.2.2.2.2.2.1
theorem d_Reader_readNumbers_70 : decode prog_8_method_9_code 70 = .ok (.iload 4, 2) := F_Reader_readNumbers_59.2.2.2.2.2.2.2.1
theorem d_Reader_readNumbers_72 : decode prog_8_method_9_code 72 = .ok (.invokevirtual 170, 3) := F_Reader_readNumbers_59.2.2.2.2.2.2.2.2.1
theorem d_Reader_readNumbers_75 : decode prog_8_method_9_code 75 = .ok (.ireturn, 1) := F_Reader_readNumbers_59.2.2.2.2.2.2.2.2.2.1
theorem d_Reader_readNumbers_76 : decode prog_8_method_9_code 76 = .ok (.aload_n 0, 1) := F_Reader_readNumbers_59.2.2.2.2.2.2.2.2.2.2.1
theorem d_Reader_readNumbers_77 : decode prog_8_method_9_code 77 = .ok (.getfield 18, 3) := F_Reader_readNumbers_59.2.2.2.2.2.2.2.2.2.2.2.1
theorem d_Reader_readNumbers_80 : decode prog_8_method_9_code 80 = .ok (.iload_n 3, 1) := F_Reader_readNumbers_59.2.2.2.2.2.2.2.2.2.2.2.2.1
theorem d_Reader_readNumbers_81 : decode prog_8_method_9_code 81 = .ok (.iload 5, 2) := F_Reader_readNumbers_59.2.2.2.2.2.2.2.2.2.2.2.2.2.1
theorem d_Reader_readNumbers_83 : decode prog_8_method_9_code 83 = .ok (.ifCond .eq (12), 3) := F_Reader_readNumbers_59.2.2.2.2.2.2.2.2.2.2.2.2.2.2.1
theorem d_Reader_readNumbers_86 : decode prog_8_method_9_code 86 = .ok (.aload_n 0, 1) := F_Reader_readNumbers_59.2.2.2.2.2.2.2.2.2.2.2.2.2.2.2.1
theorem d_Reader_readNumbers_87 : decode prog_8_method_9_code 87 = .ok (.getfield 164, 3) := F_Reader_readNumbers_59.2.2.2.2.2.2.2.2.2.2.2.2.2.2.2.2.1
theorem d_Reader_readNumbers_90 : decode prog_8_method_9_code 90 = .ok (.ineg, 1) := F_Reader_readNumbers_59.2.2.2.2.2.2.2.2.2.2.2.2.2.2.2.2.2.1
theorem d_Reader_readNumbers_91 : decode prog_8_method_9_code 91 = .ok (.i2l, 1) := F_Reader_readNumbers_59.2.2.2.2.2.2.2.2.2.2.2.2.2.2.2.2.2.2.1
theorem d_Reader_readNumbers_92 : decode prog_8_method_9_code 92 = .ok (.goto (8), 3) := F_Reader_readNumbers_59.2.2.2.2.2.2.2.2.2.2.2.2.2.2.2.2.2.2.2.1
theorem d_Reader_readNumbers_95 : decode prog_8_method_9_code 95 = .ok (.aload_n 0, 1) := F_Reader_readNumbers_59.2.2.2.2.2.2.2.2.2.2.2.2.2.2.2.2.2.2.2.2.1
theorem d_Reader_readNumbers_96 : decode prog_8_method_9_code 96 = .ok (.getfield 164, 3) := F_Reader_readNumbers_59.2.2.2.2.2.2.2.2.2.2.2.2.2.2.2.2.2.2.2.2.2.1
theorem d_Reader_readNumbers_99 : decode prog_8_method_9_code 99 = .ok (.i2l, 1) := F_Reader_readNumbers_59.2.2.2.2.2.2.2.2.2.2.2.2.2.2.2.2.2.2.2.2.2.2.1
theorem d_Reader_readNumbers_100 : decode prog_8_method_9_code 100 = .ok (.lastore, 1) := F_Reader_readNumbers_59.2.2.2.2.2.2.2.2.2.2.2.2.2.2.2.2.2.2.2.2.2.2.2.1
theorem d_Reader_readNumbers_101 : decode prog_8_method_9_code 101 = .ok (.aload_n 0, 1) := F_Reader_readNumbers_59.2.2.2.2.2.2.2.2.2.2.2.2.2.2.2.2.2.2.2.2.2.2.2.2.1
theorem d_Reader_readNumbers_102 : decode prog_8_method_9_code 102 = .ok (.invokevirtual 66, 3) := F_Reader_readNumbers_59.2.2.2.2.2.2.2.2.2.2.2.2.2.2.2.2.2.2.2.2.2.2.2.2.2.1
theorem d_Reader_readNumbers_105 : decode prog_8_method_9_code 105 = .ok (.iinc 3 (1), 3) := F_Reader_readNumbers_59.2.2.2.2.2.2.2.2.2.2.2.2.2.2.2.2.2.2.2.2.2.2.2.2.2.2.1
theorem d_Reader_readNumbers_108 : decode prog_8_method_9_code 108 = .ok (.goto (-106), 3) := F_Reader_readNumbers_59.2.2.2.2.2.2.2.2.2.2.2.2.2.2.2.2.2.2.2.2.2.2.2.2.2.2.2.1
theorem d_Reader_readNumbers_111 : decode prog_8_method_9_code 111 = .ok (.iconst 1, 1) := F_Reader_readNumbers_59.2.2.2.2.2.2.2.2.2.2.2.2.2.2.2.2.2.2.2.2.2.2.2.2.2.2.2.2.1
theorem d_Reader_readNumbers_112 : decode prog_8_method_9_code 112 = .ok (.ireturn, 1) := F_Reader_readNumbers_59.2.2.2.2.2.2.2.2.2.2.2.2.2.2.2.2.2.2.2.2.2.2.2.2.2.2.2.2.2.1
theorem F_Rows_put_0 : Jvm.Free.DS.Facts prog_9_method_7_code 0 [(.aload 6, 2), (.iconst 0, 1), (.lload_n 0, 1), (.lastore, 1), (.aload 6, 2), (.iconst 1, 1), (.lload_n 2, 1), (.lastore, 1), (.aload 6, 2), (.iconst 2, 1), (.lload 4, 2), (.lastore, 1), (.return_, 1)] := Jvm.Free.DS.facts 0 _ (by decide +kernel) (by decide +kernel)
theorem d_Rows_put_0 : decode prog_9_method_7_code 0 = .ok (.aload 6, 2) := F_Rows_put_0.1
theorem d_Rows_put_2 : decode prog_9_method_7_code 2 = .ok (.iconst 0, 1) := F_Rows_put_0.2.1
theorem d_Rows_put_3 : decode prog_9_method_7_code 3 = .ok (.lload_n 0, 1) := F_Rows_put_0.2.2.1
theorem d_Rows_put_4 : decode prog_9_method_7_code 4 = .ok (.lastore, 1) := F_Rows_put_0.2.2.2.1
theorem d_Rows_put_5 : decode prog_9_method_7_code 5 = .ok (.aload 6, 2) := F_Rows_put_0.2.2.2.2.1
theorem d_Rows_put_7 : decode prog_9_method_7_code 7 = .ok (.iconst 1, 1) := F_Rows_put_0.2.2.2.2.2.1
theorem d_Rows_put_8 : decode prog_9_method_7_code 8 = .ok (.lload_n 2, 1) := F_Rows_put_0.2.2.2.2.2.2.1
theorem d_Rows_put_9 : decode prog_9_method_7_code 9 = .ok (.lastore, 1) := F_Rows_put_0.2.2.2.2.2.2.2.1
theorem d_Rows_put_10 : decode prog_9_method_7_code 10 = .ok (.aload 6, 2) := F_Rows_put_0.2.2.2.2.2.2.2.2.1
theorem d_Rows_put_12 : decode prog_9_method_7_code 12 = .ok (.iconst 2, 1) := F_Rows_put_0.2.2.2.2.2.2.2.2.2.1
theorem d_Rows_put_13 : decode prog_9_method_7_code 13 = .ok (.lload 4, 2) := F_Rows_put_0.2.2.2.2.2.2.2.2.2.2.1
theorem d_Rows_put_15 : decode prog_9_method_7_code 15 = .ok (.lastore, 1) := F_Rows_put_0.2.2.2.2.2.2.2.2.2.2.2.1
theorem d_Rows_put_16 : decode prog_9_method_7_code 16 = .ok (.return_, 1) := F_Rows_put_0.2.2.2.2.2.2.2.2.2.2.2.2.1
theorem F_Quad_isFlat_0 : Jvm.Free.DS.Facts prog_7_method_3_code 0 [(.aload_n 0, 1), (.iconst 0, 1), (.invokevirtual 22, 3), (.lconst 0, 1), (.lcmp, 1), (.ifCond .eq (33), 3), (.aload_n 0, 1), (.iconst 1, 1), (.invokevirtual 22, 3), (.lconst 0, 1), (.lcmp, 1), (.ifCond .eq (23), 3), (.aload_n 0, 1), (.iconst 2, 1), (.invokevirtual 22, 3), (.lconst 0, 1), (.lcmp, 1), (.ifCond .eq (13), 3), (.aload_n 0, 1), (.iconst 3, 1), (.invokevirtual 22, 3), (.lconst 0, 1), (.lcmp, 1), (.ifCond .ne (7), 3), (.iconst 1, 1), (.goto (4), 3), (.iconst 0, 1), (.ireturn, 1)] := Jvm.Free.DS.facts 0 _ (by decide +kernel) (by decide +kernel)
theorem d_Quad_isFlat_0 : decode prog_7_method_3_code 0 = .ok (.aload_n 0, 1) := F_Quad_isFlat_0.1
theorem d_Quad_isFlat_1 : decode prog_7_method_3_code 1 = .ok (.iconst 0, 1) := F_Quad_isFlat_0.2.1
theorem d_Quad_isFlat_2 : decode prog_7_method_3_code 2 = .ok (.invokevirtual 22, 3) := F_Quad_isFlat_0.2.2.1
theorem d_Quad_isFlat_5 : decode prog_7_method_3_code 5 = .ok (.lconst 0, 1) := F_Quad_isFlat_0.2.2.2.1
theorem d_Quad_isFlat_6 : decode prog_7_method_3_code 6 = .ok (.lcmp, 1) := F_Quad_isFlat_0.2.2.2.2.1
theorem d_Quad_isFlat_7 : decode prog_7_method_3_code 7 = .ok (.ifCond .eq (33), 3) := F_Quad_isFlat_0.2.2.2.2.2.1
theorem d_Quad_isFlat_10 : decode prog_7_method_3_code 10 = .ok (.aload_n 0, 1) := F_Quad_isFlat_0.2.2.2.2.2.2.1
theorem d_Quad_isFlat_11 : decode prog_7_method_3_code 11 = .ok (.iconst 1, 1) := F_Quad_isFlat_0.2.2.2.2.2.2.2.1
theorem d_Quad_isFlat_12 : decode prog_7_method_3_code 12 = .ok (.invokevirtual 22, 3) := F_Quad_isFlat_0.2.2.2.2.2.2.2.2.1
theorem d_Quad_isFlat_15 : decode prog_7_method_3_code 15 = .ok (.lconst 0, 1) := F_Quad_isFlat_0.2.2.2.2.2.2.2.2.2.1
theorem d_Quad_isFlat_16 : decode prog_7_method_3_code 16 = .ok (.lcmp, 1) := F_Quad_isFlat_0.2.2.2.2.2.2.2.2.2.2.1
theorem d_Quad_isFlat_17 : decode prog_7_method_3_code 17 = .ok (.ifCond .eq (23), 3) := F_Quad_isFlat_0.2.2.2.2.2.2.2.2.2.2.2.1
theorem d_Quad_isFlat_20 : decode prog_7_method_3_code 20 = .ok (.aload_n 0, 1) := F_Quad_isFlat_0.2.2.2.2.2.2.2.2.2.2.2.2.1
theorem d_Quad_isFlat_21 : decode prog_7_method_3_code 21 = .ok (.iconst 2, 1) := F_Quad_isFlat_0.2.2.2.2.2.2.2.2.2.2.2.2.2.1
theorem d_Quad_isFlat_22 : decode prog_7_method_3_code 22 = .ok (.invokevirtual 22, 3) := F_Quad_isFlat_0.2.2.2.2.2.2.2.2.2.2.2.2.2.2.1
theorem d_Quad_isFlat_25 : decode prog_7_method_3_code 25 = .ok (.lconst 0, 1) := F_Quad_isFlat_0.2.2.2.2.2.2.2.2.2.2.2.2.2.2.2.1
theorem d_Quad_isFlat_26 : decode prog_7_method_3_code 26 = .ok (.lcmp, 1) := F_Quad_isFlat_0.2.2.2.2.2.2.2.2.2.2.2.2.2.2.2.2.1
theorem d_Quad_isFlat_27 : decode prog_7_method_3_code 27 = .ok (.ifCond .eq (13), 3) := F_Quad_isFlat_0.2.2.2.2.2.2.2.2.2.2.2.2.2.2.2.2.2.1
theorem d_Quad_isFlat_30 : decode prog_7_method_3_code 30 = .ok (.aload_n 0, 1) := F_Quad_isFlat_0.2.2.2.2.2.2.2.2.2.2.2.2.2.2.2.2.2.2.1
theorem d_Quad_isFlat_31 : decode prog_7_method_3_code 31 = .ok (.iconst 3, 1) := F_Quad_isFlat_0.2.2.2.2.2.2.2.2.2.2.2.2.2.2.2.2.2.2.2.1
theorem d_Quad_isFlat_32 : decode prog_7_method_3_code 32 = .ok (.invokevirtual 22, 3) := F_Quad_isFlat_0.2.2.2.2.2.2.2.2.2.2.2.2.2.2.2.2.2.2.2.2.1
theorem d_Quad_isFlat_35 : decode prog_7_method_3_code 35 = .ok (.lconst 0, 1) := F_Quad_isFlat_0.2.2.2.2.2.2.2.2.2.2.2.2.2.2.2.2.2.2.2.2.2.1
theorem d_Quad_isFlat_36 : decode prog_7_method_3_code 36 = .ok (.lcmp, 1) := F_Quad_isFlat_0.2.2.2.2.2.2.2.2.2.2.2.2.2.2.2.2.2.2.2.2.2.2.1
theorem d_Quad_isFlat_37 : decode prog_7_method_3_code 37 = .ok (.ifCond .ne (7), 3) := F_Quad_isFlat_0.2.2.2.2.2.2.2.2.2.2.2.2.2.2.2.2.2.2.2.2.2.2.2.1
theorem d_Quad_isFlat_40 : decode prog_7_method_3_code 40 = .ok (.iconst 1, 1) := F_Quad_isFlat_0.2.2.2.2.2.2.2.2.2.2.2.2.2.2.2.2.2.2.2.2.2.2.2.2.1
theorem d_Quad_isFlat_41 : decode prog_7_method_3_code 41 = .ok (.goto (4), 3) := F_Quad_isFlat_0.2.2.2.2.2.2.2.2.2.2.2.2.2.2.2.2.2.2.2.2.2.2.2.2.2.1
theorem d_Quad_isFlat_44 : decode prog_7_method_3_code 44 = .ok (.iconst 0, 1) := F_Quad_isFlat_0.2.2.2.2.2.2.2.2.2.2.2.2.2.2.2.2.2.2.2.2.2.2.2.2.2.2.1
theorem d_Quad_isFlat_45 : decode prog_7_method_3_code 45 = .ok (.ireturn, 1) := F_Quad_isFlat_0.2.2.2.2.2.2.2.2.2.2.2.2.2.2.2.2.2.2.2.2.2.2.2.2.2.2.2.1
theorem F_Quad_turnAt_0 : Jvm.Free.DS.Facts prog_7_method_2_code 0 [(.aload_n 0, 1), (.getfield 11, 3), (.iload_n 1, 1), (.iconst 3, 1), (.iadd, 1), (.iconst 3, 1), (.iand, 1), (.aaload, 1), (.aload_n 0, 1), (.getfield 11, 3), (.iload_n 1, 1), (.iconst 3, 1), (.iand, 1), (.aaload, 1), (.aload_n 0, 1), (.getfield 11, 3), (.iload_n 1, 1), (.iconst 1, 1), (.iadd, 1), (.iconst 3, 1), (.iand, 1), (.aaload, 1), (.invokestatic 16, 3), (.lreturn, 1)] := Jvm.Free.DS.facts 0 _ (by decide +kernel) (by decide +kernel)
theorem d_Quad_turnAt_0 : decode prog_7_method_2_code 0 = .ok (.aload_n 0, 1) := F_Quad_turnAt_0.1
theorem d_Quad_turnAt_1 : decode prog_7_method_2_code 1 = .ok (.getfield 11, 3) := F_Quad_turnAt_0.2.1
theorem d_Quad_turnAt_4 : decode prog_7_method_2_code 4 = .ok (.iload_n 1, 1) := F_Quad_turnAt_0.2.2.1
theorem d_Quad_turnAt_5 : decode prog_7_method_2_code 5 = .ok (.iconst 3, 1) := F_Quad_turnAt_0.2.2.2.1
theorem d_Quad_turnAt_6 : decode prog_7_method_2_code 6 = .ok (.iadd, 1) := F_Quad_turnAt_0.2.2.2.2.1
theorem d_Quad_turnAt_7 : decode prog_7_method_2_code 7 = .ok (.iconst 3, 1) := F_Quad_turnAt_0.2.2.2.2.2.1
theorem d_Quad_turnAt_8 : decode prog_7_method_2_code 8 = .ok (.iand, 1) := F_Quad_turnAt_0.2.2.2.2.2.2.1
theorem d_Quad_turnAt_9 : decode prog_7_method_2_code 9 = .ok (.aaload, 1) := F_Quad_turnAt_0.2.2.2.2.2.2.2.1
theorem d_Quad_turnAt_10 : decode prog_7_method_2_code 10 = .ok (.aload_n 0, 1) := F_Quad_turnAt_0.2.2.2.2.2.2.2.2.1
theorem d_Quad_turnAt_11 : decode prog_7_method_2_code 11 = .ok (.getfield 11, 3) := F_Quad_turnAt_0.2.2.2.2.2.2.2.2.2.1
theorem d_Quad_turnAt_14 : decode prog_7_method_2_code 14 = .ok (.iload_n 1, 1) := F_Quad_turnAt_0.2.2.2.2.2.2.2.2.2.2.1
theorem d_Quad_turnAt_15 : decode prog_7_method_2_code 15 = .ok (.iconst 3, 1) := F_Quad_turnAt_0.2.2.2.2.2.2.2.2.2.2.2.1
theorem d_Quad_turnAt_16 : decode prog_7_method_2_code 16 = .ok (.iand, 1) := F_Quad_turnAt_0.2.2.2.2.2.2.2.2.2.2.2.2.1
theorem d_Quad_turnAt_17 : decode prog_7_method_2_code 17 = .ok (.aaload, 1) := F_Quad_turnAt_0.2.2.2.2.2.2.2.2.2.2.2.2.2.1
theorem d_Quad_turnAt_18 : decode prog_7_method_2_code 18 = .ok (.aload_n 0, 1) := F_Quad_turnAt_0.2.2.2.2.2.2.2.2.2.2.2.2.2.2.1
theorem d_Quad_turnAt_19 : decode prog_7_method_2_code 19 = .ok (.getfield 11, 3) := F_Quad_turnAt_0.2.2.2.2.2.2.2.2.2.2.2.2.2.2.2.1
theorem d_Quad_turnAt_22 : decode prog_7_method_2_code 22 = .ok (.iload_n 1, 1) := F_Quad_turnAt_0.2.2.2.2.2.2.2.2.2.2.2.2.2.2.2.2.1
theorem d_Quad_turnAt_23 : decode prog_7_method_2_code 23 = .ok (.iconst 1, 1) := F_Quad_turnAt_0.2.2.2.2.2.2.2.2.2.2.2.2.2.2.2.2.2.1
theorem d_Quad_turnAt_24 : decode prog_7_method_2_code 24 = .ok (.iadd, 1) := F_Quad_turnAt_0.2.2.2.2.2.2.2.2.2.2.2.2.2.2.2.2.2.2.1
theorem d_Quad_turnAt_25 : decode prog_7_method_2_code 25 = .ok (.iconst 3, 1) := F_Quad_turnAt_0.2.2.2.2.2.2.2.2.2.2.2.2.2.2.2.2.2.2.2.1
theorem d_Quad_turnAt_26 : decode prog_7_method_2_code 26 = .ok (.iand, 1) := F_Quad_turnAt_0.2.2.2.2.2.2.2.2.2.2.2.2.2.2.2.2.2.2.2.2.1
theorem d_Quad_turnAt_27 : decode prog_7_method_2_code 27 = .ok (.aaload, 1) := F_Quad_turnAt_0.2.2.2.2.2.2.2.2.2.2.2.2.2.2.2.2.2.2.2.2.2.1
theorem d_Quad_turnAt_28 : decode prog_7_method_2_code 28 = .ok (.invokestatic 16, 3) := F_Quad_turnAt_0.2.2.2.2.2.2.2.2.2.2.2.2.2.2.2.2.2.2.2.2.2.2.1
theorem d_Quad_turnAt_31 : decode prog_7_method_2_code 31 = .ok (.lreturn, 1) := F_Quad_turnAt_0.2.2.2.2.2.2.2.2.2.2.2.2.2.2.2.2.2.2.2.2.2.2.2.1
theorem F_Rows_determinant_0 : Jvm.Free.DS.Facts prog_9_method_15_code 0 [(.aload_n 0, 1), (.iconst 0, 1), (.laload, 1), (.aload_n 1, 1), (.iconst 1, 1), (.laload, 1), (.aload_n 2, 1), (.iconst 2, 1), (.laload, 1), (.lmul, 1), (.aload_n 1, 1), (.iconst 2, 1), (.laload, 1), (.aload_n 2, 1), (.iconst 1, 1), (.laload, 1), (.lmul, 1), (.lsub, 1), (.lmul, 1), (.aload_n 0, 1), (.iconst 1, 1), (.laload, 1), (.aload_n 1, 1), (.iconst 2, 1), (.laload, 1), (.aload_n 2, 1), (.iconst 0, 1), (.laload, 1), (.lmul, 1), (.aload_n 1, 1), (.iconst 0, 1), (.laload, 1)] := Jvm.Free.DS.facts 0 _ (by decide +kernel) (by decide +kernel)
theorem d_Rows_determinant_0 : decode prog_9_method_15_code 0 = .ok (.aload_n 0, 1) := F_Rows_determinant_0.1
theorem d_Rows_determinant_1 : decode prog_9_method_15_code 1 = .ok (.iconst 0, 1) := F_Rows_determinant_0.2.1
theorem d_Rows_determinant_2 : decode prog_9_method_15_code 2 = .ok (.laload, 1) := F_Rows_determinant_0.2.2.1
theorem d_Rows_determinant_3 : decode prog_9_method_15_code 3 = .ok (.aload_n 1, 1) := F_Rows_determinant_0.2.2.2.1
theorem d_Rows_determinant_4 : decode prog_9_method_15_code 4 = .ok (.iconst 1, 1) := F_Rows_determinant_0.2.2.2.2.1
theorem d_Rows_determinant_5 : decode prog_9_method_15_code 5 = .ok (.laload, 1) := F_Rows_determinant_0.2.2.2.2.2.1
theorem d_Rows_determinant_6 : decode prog_9_method_15_code 6 = .ok (.aload_n 2, 1) := F_Rows_determinant_0.2.2.2.2.2.2.1
theorem d_Rows_determinant_7 : decode prog_9_method_15_code 7 = .ok (.iconst 2, 1) := F_Rows_determinant_0.2.2.2.2.2.2.2.1
theorem d_Rows_determinant_8 : decode prog_9_method_15_code 8 = .ok (.laload, 1) := F_Rows_determinant_0.2.2.2.2.2.2.2.2.1
theorem d_Rows_determinant_9 : decode prog_9_method_15_code 9 = .ok (.lmul, 1) := F_Rows_determinant_0.2.2.2.2.2.2.2.2.2.1
theorem d_Rows_determinant_10 : decode prog_9_method_15_code 10 = .ok (.aload_n 1, 1) := F_Rows_determinant_0.2.2.2.2.2.2.2.2.2.2.1
theorem d_Rows_determinant_11 : decode prog_9_method_15_code 11 = .ok (.iconst 2, 1) := F_Rows_determinant_0.2.2.2.2.2.2.2.2.2.2.2.1
theorem d_Rows_determinant_12 : decode prog_9_method_15_code 12 = .ok (.laload, 1) := F_Rows_determinant_0.2.2.2.2.2.2.2.2.2.2.2.2.1
theorem d_Rows_determinant_13 : decode prog_9_method_15_code 13 = .ok (.aload_n 2, 1) := F_Rows_determinant_0.2.2.2.2.2.2.2.2.2.2.2.2.2.1
theorem d_Rows_determinant_14 : decode prog_9_method_15_code 14 = .ok (.iconst 1, 1) := F_Rows_determinant_0.2.2.2.2.2.2.2.2.2.2.2.2.2.2.1
theorem d_Rows_determinant_15 : decode prog_9_method_15_code 15 = .ok (.laload, 1) := F_Rows_determinant_0.2.2.2.2.2.2.2.2.2.2.2.2.2.2.2.1
theorem d_Rows_determinant_16 : decode prog_9_method_15_code 16 = .ok (.lmul, 1) := F_Rows_determinant_0.2.2.2.2.2.2.2.2.2.2.2.2.2.2.2.2.1
theorem d_Rows_determinant_17 : decode prog_9_method_15_code 17 = .ok (.lsub, 1) := F_Rows_determinant_0.2.2.2.2.2.2.2.2.2.2.2.2.2.2.2.2.2.1
theorem d_Rows_determinant_18 : decode prog_9_method_15_code 18 = .ok (.lmul, 1) := F_Rows_determinant_0.2.2.2.2.2.2.2.2.2.2.2.2.2.2.2.2.2.2.1
theorem d_Rows_determinant_19 : decode prog_9_method_15_code 19 = .ok (.aload_n 0, 1) := F_Rows_determinant_0.2.2.2.2.2.2.2.2.2.2.2.2.2.2.2.2.2.2.2.1
theorem d_Rows_determinant_20 : decode prog_9_method_15_code 20 = .ok (.iconst 1, 1) := F_Rows_determinant_0.2.2.2.2.2.2.2.2.2.2.2.2.2.2.2.2.2.2.2.2.1
theorem d_Rows_determinant_21 : decode prog_9_method_15_code 21 = .ok (.laload, 1) := F_Rows_determinant_0.2.2.2.2.2.2.2.2.2.2.2.2.2.2.2.2.2.2.2.2.2.1
theorem d_Rows_determinant_22 : decode prog_9_method_15_code 22 = .ok (.aload_n 1, 1) := F_Rows_determinant_0.2.2.2.2.2.2.2.2.2.2.2.2.2.2.2.2.2.2.2.2.2.2.1
theorem d_Rows_determinant_23 : decode prog_9_method_15_code 23 = .ok (.iconst 2, 1) := F_Rows_determinant_0.2.2.2.2.2.2.2.2.2.2.2.2.2.2.2.2.2.2.2.2.2.2.2.1
theorem d_Rows_determinant_24 : decode prog_9_method_15_code 24 = .ok (.laload, 1) := F_Rows_determinant_0.2.2.2.2.2.2.2.2.2.2.2.2.2.2.2.2.2.2.2.2.2.2.2.2.1
theorem d_Rows_determinant_25 : decode prog_9_method_15_code 25 = .ok (.aload_n 2, 1) := F_Rows_determinant_0.2.2.2.2.2.2.2.2.2.2.2.2.2.2.2.2.2.2.2.2.2.2.2.2.2.1
theorem d_Rows_determinant_26 : decode prog_9_method_15_code 26 = .ok (.iconst 0, 1) := F_Rows_determinant_0.2.2.2.2.2.2.2.2.2.2.2.2.2.2.2.2.2.2.2.2.2.2.2.2.2.2.1
theorem d_Rows_determinant_27 : decode prog_9_method_15_code 27 = .ok (.laload, 1) := F_Rows_determinant_0.2.2.2.2.2.2.2.2.2.2.2.2.2.2.2.2.2.2.2.2.2.2.2.2.2.2.2.1
theorem d_Rows_determinant_28 : decode prog_9_method_15_code 28 = .ok (.lmul, 1) := F_Rows_determinant_0.2.2.2.2.2.2.2.2.2.2.2.2.2.2.2.2.2.2.2.2.2.2.2.2.2.2.2.2.1
theorem d_Rows_determinant_29 : decode prog_9_method_15_code 29 = .ok (.aload_n 1, 1) := F_Rows_determinant_0.2.2.2.2.2.2.2.2.2.2.2.2.2.2.2.2.2.2.2.2.2.2.2.2.2.2.2.2.2.1
theorem d_Rows_determinant_30 : decode prog_9_method_15_code 30 = .ok (.iconst 0, 1) := F_Rows_determinant_0.2.2.2.2.2.2.2.2.2.2.2.2.2.2.2.2.2.2.2.2.2.2.2.2.2.2.2.2.2.2.1
theorem d_Rows_determinant_31 : decode prog_9_method_15_code 31 = .ok (.laload, 1) := F_Rows_determinant_0.2.2.2.2.2.2.2.2.2.2.2.2.2.2.2.2.2.2.2.2.2.2.2.2.2.2.2.2.2.2.2.1
theorem F_Rows_determinant_32 : Jvm.Free.DS.Facts prog_9_method_15_code 32 [(.aload_n 2, 1), (.iconst 2, 1), (.laload, 1), (.lmul, 1), (.lsub, 1), (.lmul, 1), (.ladd, 1), (.aload_n 0, 1), (.iconst 2, 1), (.laload, 1), (.aload_n 1, 1), (.iconst 0, 1), (.laload, 1), (.aload_n 2, 1), (.iconst 1, 1), (.laload, 1), (.lmul, 1), (.aload_n 1, 1), (.iconst 1, 1), (.laload, 1), (.aload_n 2, 1), (.iconst 0, 1), (.laload, 1), (.lmul, 1), (.lsub, 1), (.lmul, 1), (.ladd, 1), (.lreturn, 1)] := Jvm.Free.DS.facts 32 _ (by decide +kernel) (by decide +kernel)
theorem d_Rows_determinant_32 : decode prog_9_method_15_code 32 = .ok (.aload_n 2, 1) := F_Rows_determinant_32.1
theorem d_Rows_determinant_33 : decode prog_9_method_15_code 33 = .ok (.iconst 2, 1) := F_Rows_determinant_32.2.1
theorem d_Rows_determinant_34 : decode prog_9_method_15_code 34 = .ok (.laload, 1) := F_Rows_determinant_32.2.2.1
theorem d_Rows_determinant_35 : decode prog_9_method_15_code 35 = .ok (.lmul, 1) := F_Rows_determinant_32.2.2.2.1
theorem d_Rows_determinant_36 : decode prog_9_method_15_code 36 = .ok (.lsub, 1) := F_Rows_determinant_32.2.2.2.2.1
theorem d_Rows_determinant_37 : decode prog_9_method_15_code 37 = .ok (.lmul, 1) := F_Rows_determinant_32.2.2.2.2.2.1
theorem d_Rows_determinant_38 : decode prog_9_method_15_code 38 = .ok (.ladd, 1) := F_Rows_determinant_32.2.2.2.2.2.2.1
theorem d_Rows_determinant_39 : decode prog_9_method_15_code 39 = .ok (.aload_n 0, 1) := F_Rows_determinant_32.2.2.2.2.2.2.2.1
theorem d_Rows_determinant_40 : decode prog_9_method_15_code 40 = .ok (.iconst 2, 1) := F_Rows_determinant_32.2.2.2.2.2.2.2.2.1
theorem d_Rows_determinant_41 : decode prog_9_method_15_code 41 = .ok (.laload, 1) := F_Rows_determinant_32.2.2.2.2.2.2.2.2.2.1
theorem d_Rows_determinant_42 : decode prog_9_method_15_code 42 = .ok (.aload_n 1, 1) := F_Rows_determinant_32.2.2.2.2.2.2.2.2.2.2.1
theorem d_Rows_determinant_43 : decode prog_9_method_15_code 43 = .ok (.iconst 0, 1) := F_Rows_determinant_32.2.2.2.2.2.2.2.2.2.2.2.1
theorem d_Rows_determinant_44 : decode prog_9_method_15_code 44 = .ok (.laload, 1) := F_Rows_determinant_32.2.2.2.2.2.2.2.2.2.2.2.2.1
theorem d_Rows_determinant_45 : decode prog_9_method_15_code 45 = .ok (.aload_n 2, 1) := F_Rows_determinant_32.2.2.2.2.2.2.2.2.2.2.2.2.2.1
theorem d_Rows_determinant_46 : decode prog_9_method_15_code 46 = .ok (.iconst 1, 1) := F_Rows_determinant_32.2.2.2.2.2.2.2.2.2.2.2.2.2.2.1
theorem d_Rows_determinant_47 : decode prog_9_method_15_code 47 = .ok (.laload, 1) := F_Rows_determinant_32.2.2.2.2.2.2.2.2.2.2.2.2.2.2.2.1
theorem d_Rows_determinant_48 : decode prog_9_method_15_code 48 = .ok (.lmul, 1) := F_Rows_determinant_32.2.2.2.2.2.2.2.2.2.2.2.2.2.2.2.2.1
theorem d_Rows_determinant_49 : decode prog_9_method_15_code 49 = .ok (.aload_n 1, 1) := F_Rows_determinant_32.2.2.2.2.2.2.2.2.2.2.2.2.2.2.2.2.2.1
theorem d_Rows_determinant_50 : decode prog_9_method_15_code 50 = .ok (.iconst 1, 1) := F_Rows_determinant_32.2.2.2.2.2.2.2.2.2.2.2.2.2.2.2.2.2.2.1
theorem d_Rows_determinant_51 : decode prog_9_method_15_code 51 = .ok (.laload, 1) := F_Rows_determinant_32.2.2.2.2.2.2.2.2.2.2.2.2.2.2.2.2.2.2.2.1
theorem d_Rows_determinant_52 : decode prog_9_method_15_code 52 = .ok (.aload_n 2, 1) := F_Rows_determinant_32.2.2.2.2.2.2.2.2.2.2.2.2.2.2.2.2.2.2.2.2.1
theorem d_Rows_determinant_53 : decode prog_9_method_15_code 53 = .ok (.iconst 0, 1) := F_Rows_determinant_32.2.2.2.2.2.2.2.2.2.2.2.2.2.2.2.2.2.2.2.2.2.1
theorem d_Rows_determinant_54 : decode prog_9_method_15_code 54 = .ok (.laload, 1) := F_Rows_determinant_32.2.2.2.2.2.2.2.2.2.2.2.2.2.2.2.2.2.2.2.2.2.2.1
theorem d_Rows_determinant_55 : decode prog_9_method_15_code 55 = .ok (.lmul, 1) := F_Rows_determinant_32.2.2.2.2.2.2.2.2.2.2.2.2.2.2.2.2.2.2.2.2.2.2.2.1
theorem d_Rows_determinant_56 : decode prog_9_method_15_code 56 = .ok (.lsub, 1) := F_Rows_determinant_32.2.2.2.2.2.2.2.2.2.2.2.2.2.2.2.2.2.2.2.2.2.2.2.2.1
theorem d_Rows_determinant_57 : decode prog_9_method_15_code 57 = .ok (.lmul, 1) := F_Rows_determinant_32.2.2.2.2.2.2.2.2.2.2.2.2.2.2.2.2.2.2.2.2.2.2.2.2.2.1
theorem d_Rows_determinant_58 : decode prog_9_method_15_code 58 = .ok (.ladd, 1) := F_Rows_determinant_32.2.2.2.2.2.2.2.2.2.2.2.2.2.2.2.2.2.2.2.2.2.2.2.2.2.2.1
theorem d_Rows_determinant_59 : decode prog_9_method_15_code 59 = .ok (.lreturn, 1) := F_Rows_determinant_32.2.2.2.2.2.2.2.2.2.2.2.2.2.2.2.2.2.2.2.2.2.2.2.2.2.2.2.1
theorem F_Reader_readMap_0 : Jvm.Free.DS.Facts prog_8_method_4_code 0 [(.aload_n 0, 1), (.getfield 37, 3), (.getfield 124, 3), (.bipush (8), 2), (.if_icmp .ne (9), 3), (.aload_n 0, 1), (.iconst 2, 1), (.invokevirtual 88, 3), (.ireturn, 1), (.aload_n 0, 1), (.invokevirtual 66, 3), (.aload_n 0, 1), (.aload_n 0, 1), (.getfield 15, 3), (.aload_n 0, 1), (.getfield 37, 3), (.getfield 124, 3), (.invokevirtual 97, 3), (.ifCond .ne (5), 3), (.iconst 0, 1), (.ireturn, 1), (.aload_n 0, 1), (.invokevirtual 127, 3), (.istore_n 1, 1), (.iload_n 1, 1), (.iconst (-1), 1), (.if_icmp .ne (7), 3), (.iconst (-1), 1), (.goto (7), 3), (.aload_n 0, 1), (.invokevirtual 127, 3), (.istore_n 2, 1)] := Jvm.Free.DS.facts 0 _ (by decide +kernel) (by decide +kernel)
theorem d_Reader_readMap_0 : decode prog_8_method_4_code 0 = .ok (.aload_n 0, 1) := F_Reader_readMap_0.1
theorem d_Reader_readMap_1 : decode prog_8_method_4_code 1 = .ok (.getfield 37, 3) := F_Reader_readMap_0.2.1
theorem d_Reader_readMap_4 : decode prog_8_method_4_code 4 = .ok (.getfield 124, 3) := F_Reader_readMap_0.2.2.1
theorem d_Reader_readMap_7 : decode prog_8_method_4_code 7 = .ok (.bipush (8), 2) := F_Reader_readMap_0.2.2.2.1
theorem d_Reader_readMap_9 : decode prog_8_method_4_code 9 = .ok (.if_icmp .ne (9), 3) := F_Reader_readMap_0.2.2.2.2.1
theorem d_Reader_readMap_12 : decode prog_8_method_4_code 12 = .ok (.aload_n 0, 1) := F_Reader_readMap_0.2.2.2.2.2.1
theorem d_Reader_readMap_13 : decode prog_8_method_4_code 13 = .ok (.iconst 2, 1) := F_Reader_readMap_0.2.2.2.2.2.2.1
theorem d_Reader_readMap_14 : decode prog_8_method_4_code 14 = .ok (.invokevirtual 88, 3) := F_Reader_readMap_0.2.2.2.2.2.2.2.1
theorem d_Reader_readMap_17 : decode prog_8_method_4_code 17 = .ok (.ireturn, 1) := F_Reader_readMap_0.2.2.2.2.2.2.2.2.1
theorem d_Reader_readMap_18 : decode prog_8_method_4_code 18 = .ok (.aload_n 0, 1) := F_Reader_readMap_0.2.2.2.2.2.2.2.2.2.1
theorem d_Reader_readMap_19 : decode prog_8_method_4_code 19 = .ok (.invokevirtual 66, 3) := F_Reader_readMap_0.2.2.2.2.2.2.2.2.2.2.1
theorem d_Reader_readMap_22 : decode prog_8_method_4_code 22 = .ok (.aload_n 0, 1) := F_Reader_readMap_0.2.2.2.2.2.2.2.2.2.2.2.1
theorem d_Reader_readMap_23 : decode prog_8_method_4_code 23 = .ok (.aload_n 0, 1) := F_Reader_readMap_0.2.2.2.2.2.2.2.2.2.2.2.2.1
theorem d_Reader_readMap_24 : decode prog_8_method_4_code 24 = .ok (.getfield 15, 3) := F_Reader_readMap_0.2.2.2.2.2.2.2.2.2.2.2.2.2.1
theorem d_Reader_readMap_27 : decode prog_8_method_4_code 27 = .ok (.aload_n 0, 1) := F_Reader_readMap_0.2.2.2.2.2.2.2.2.2.2.2.2.2.2.1
theorem d_Reader_readMap_28 : decode prog_8_method_4_code 28 = .ok (.getfield 37, 3) := F_Reader_readMap_0.2.2.2.2.2.2.2.2.2.2.2.2.2.2.2.1
theorem d_Reader_readMap_31 : decode prog_8_method_4_code 31 = .ok (.getfield 124, 3) := F_Reader_readMap_0.2.2.2.2.2.2.2.2.2.2.2.2.2.2.2.2.1
theorem d_Reader_readMap_34 : decode prog_8_method_4_code 34 = .ok (.invokevirtual 97, 3) := F_Reader_readMap_0.2.2.2.2.2.2.2.2.2.2.2.2.2.2.2.2.2.1
theorem d_Reader_readMap_37 : decode prog_8_method_4_code 37 = .ok (.ifCond .ne (5), 3) := F_Reader_readMap_0.2.2.2.2.2.2.2.2.2.2.2.2.2.2.2.2.2.2.1
theorem d_Reader_readMap_40 : decode prog_8_method_4_code 40 = .ok (.iconst 0, 1) := F_Reader_readMap_0.2.2.2.2.2.2.2.2.2.2.2.2.2.2.2.2.2.2.2.1
theorem d_Reader_readMap_41 : decode prog_8_method_4_code 41 = .ok (.ireturn, 1) := F_Reader_readMap_0.2.2.2.2.2.2.2.2.2.2.2.2.2.2.2.2.2.2.2.2.1
theorem d_Reader_readMap_42 : decode prog_8_method_4_code 42 = .ok (.aload_n 0, 1) := F_Reader_readMap_0.2.2.2.2.2.2.2.2.2.2.2.2.2.2.2.2.2.2.2.2.2.1
theorem d_Reader_readMap_43 : decode prog_8_method_4_code 43 = .ok (.invokevirtual 127, 3) := F_Reader_readMap_0.2.2.2.2.2.2.2.2.2.2.2.2.2.2.2.2.2.2.2.2.2.2.1
theorem d_Reader_readMap_46 : decode prog_8_method_4_code 46 = .ok (.istore_n 1, 1) := F_Reader_readMap_0.2.2.2.2.2.2.2.2.2.2.2.2.2.2.2.2.2.2.2.2.2.2.2.1
theorem d_Reader_readMap_47 : decode prog_8_method_4_code 47 = .ok (.iload_n 1, 1) := F_Reader_readMap_0.2.2.2.2.2.2.2.2.2.2.2.2.2.2.2.2.2.2.2.2.2.2.2.2.1
theorem d_Reader_readMap_48 : decode prog_8_method_4_code 48 = .ok (.iconst (-1), 1) := F_Reader_readMap_0.2.2.2.2.2.2.2.2.2.2.2.2.2.2.2.2.2.2.2.2.2.2.2.2.2.1
theorem d_Reader_readMap_49 : decode prog_8_method_4_code 49 = .ok (.if_icmp .ne (7), 3) := F_Reader_readMap_0.2.2.2.2.2.2.2.2.2.2.2.2.2.2.2.2.2.2.2.2.2.2.2.2.2.2.1
theorem d_Reader_readMap_52 : decode prog_8_method_4_code 52 = .ok (.iconst (-1), 1) := F_Reader_readMap_0.2.2.2.2.2.2.2.2.2.2.2.2.2.2.2.2.2.2.2.2.2.2.2.2.2.2.2.1
theorem d_Reader_readMap_53 : decode prog_8_method_4_code 53 = .ok (.goto (7), 3) := F_Reader_readMap_0.2.2.2.2.2.2.2.2.2.2.2.2.2.2.2.2.2.2.2.2.2.2.2.2.2.2.2.2.1
theorem d_Reader_readMap_56 : decode prog_8_method_4_code 56 = .ok (.aload_n 0, 1) := F_Reader_readMap_0.2.2.2.2.2.2.2.2.2.2.2.2.2.2.2.2.2.2.2.2.2.2.2.2.2.2.2.2.2.1
theorem d_Reader_readMap_57 : decode prog_8_method_4_code 57 = .ok (.invokevirtual 127, 3) := F_Reader_readMap_0.2.2.2.2.2.2.2.2.2.2.2.2.2.2.2.2.2.2.2.2.2.2.2.2.2.2.2.2.2.2.1
theorem d_Reader_readMap_60 : decode prog_8_method_4_code 60 = .ok (.istore_n 2, 1) := F_Reader_readMap_0.2.2.2.2.2.2.2.2.2.2.2.2.2.2.2.2.2.2.2.2.2.2.2.2.2.2.2.2.2.2.2.1
theorem F_Reader_readMap_61 : Jvm.Free.DS.Facts prog_8_method_4_code 61 [(.iload_n 2, 1), (.iconst (-1), 1), (.if_icmp .ne (5), 3), (.iconst 0, 1), (.ireturn, 1), (.aload_n 0, 1), (.getfield 69, 3), (.iconst 1, 1), (.if_icmp .eq (9), 3), (.aload_n 0, 1), (.iconst 1, 1), (.invokevirtual 88, 3), (.ireturn, 1), (.aload_n 0, 1), (.getfield 33, 3), (.aload_n 0, 1), (.getfield 37, 3), (.getfield 101, 3), (.iload_n 1, 1), (.aaload, 1), (.aload_n 0, 1), (.getfield 37, 3), (.getfield 101, 3), (.iload_n 2, 1), (.aaload, 1), (.iconst 0, 1), (.aload_n 0, 1), (.getfield 22, 3), (.invokevirtual 131, 3), (.aload_n 0, 1), (.getfield 22, 3), (.invokestatic 137, 3)] := Jvm.Free.DS.facts 61 _ (by decide +kernel) (by decide +kernel)
theorem d_Reader_readMap_61 : decode prog_8_method_4_code 61 = .ok (.iload_n 2, 1) := F_Reader_readMap_61.1
theorem d_Reader_readMap_62 : decode prog_8_method_4_code 62 = .ok (.iconst (-1), 1) := F_Reader_readMap_61.2.1
theorem d_Reader_readMap_63 : decode prog_8_method_4_code 63 = .ok (.if_icmp .ne (5), 3) := F_Reader_readMap_61.2.2.1
theorem d_Reader_readMap_66 : decode prog_8_method_4_code 66 = .ok (.iconst 0, 1) := F_Reader_readMap_61.2.2.2.1
theorem d_Reader_readMap_67 : decode prog_8_method_4_code 67 = .ok (.ireturn, 1) := F_Reader_readMap_61.2.2.2.2.1
theorem d_Reader_readMap_68 : decode prog_8_method_4_code 68 = .ok (.aload_n 0, 1) := F_Reader_readMap_61.2.2.2.2.2.1
theorem d_Reader_readMap_69 : decode prog_8_method_4_code 69 = .ok (.getfield 69, 3) := F_Reader_readMap_61.2.2.2.2.2.2.1
theorem d_Reader_readMap_72 : decode prog_8_method_4_code 72 = .ok (.iconst 1, 1) := F_Reader_readMap_61.2.2.2.2.2.2.2.1
theorem d_Reader_readMap_73 : decode prog_8_method_4_code 73 = .ok (.if_icmp .eq (9), 3) := F_Reader_readMap_61.2.2.2.2.2.2.2.2.1
theorem d_Reader_readMap_76 : decode prog_8_method_4_code 76 = .ok (.aload_n 0, 1) := F_Reader_readMap_61.2.2.2.2.2.2.2.2.2.1
theorem d_Reader_readMap_77 : decode prog_8_method_4_code 77 = .ok (.iconst 1, 1) := F_Reader_readMap_61.2.2.2.2.2.2.2.2.2.2.1
theorem d_Reader_readMap_78 : decode prog_8_method_4_code 78 = .ok (.invokevirtual 88, 3) := F_Reader_readMap_61.2.2.2.2.2.2.2.2.2.2.2.1
theorem d_Reader_readMap_81 : decode prog_8_method_4_code 81 = .ok (.ireturn, 1) := F_Reader_readMap_61.2.2.2.2.2.2.2.2.2.2.2.2.1
theorem d_Reader_readMap_82 : decode prog_8_method_4_code 82 = .ok (.aload_n 0, 1) := F_Reader_readMap_61.2.2.2.2.2.2.2.2.2.2.2.2.2.1
theorem d_Reader_readMap_83 : decode prog_8_method_4_code 83 = .ok (.getfield 33, 3) := F_Reader_readMap_61.2.2.2.2.2.2.2.2.2.2.2.2.2.2.1
theorem d_Reader_readMap_86 : decode prog_8_method_4_code 86 = .ok (.aload_n 0, 1) := F_Reader_readMap_61.2.2.2.2.2.2.2.2.2.2.2.2.2.2.2.1
theorem d_Reader_readMap_87 : decode prog_8_method_4_code 87 = .ok (.getfield 37, 3) := F_Reader_readMap_61.2.2.2.2.2.2.2.2.2.2.2.2.2.2.2.2.1
theorem d_Reader_readMap_90 : decode prog_8_method_4_code 90 = .ok (.getfield 101, 3) := F_Reader_readMap_61.2.2.2.2.2.2.2.2.2.2.2.2.2.2.2.2.2.1
theorem d_Reader_readMap_93 : decode prog_8_method_4_code 93 = .ok (.iload_n 1, 1) := F_Reader_readMap_61.2.2.2.2.2.2.2.2.2.2.2.2.2.2.2.2.2.2.1
theorem d_Reader_readMap_94 : decode prog_8_method_4_code 94 = .ok (.aaload, 1) := F_Reader_readMap_61.2.2.2.2.2.2.2.2.2.2.2.2.2.2.2.2.2.2.2.1
theorem d_Reader_readMap_95 : decode prog_8_method_4_code 95 = .ok (.aload_n 0, 1) := F_Reader_readMap_61.2.2.2.2.2.2.2.2.2.2.2.2.2.2.2.2.2.2.2.2.1
theorem d_Reader_readMap_96 : decode prog_8_method_4_code 96 = .ok (.getfield 37, 3) := F_Reader_readMap_61.2.2.2.2.2.2.2.2.2.2.2.2.2.2.2.2.2.2.2.2.2.1
theorem d_Reader_readMap_99 : decode prog_8_method_4_code 99 = .ok (.getfield 101, 3) := F_Reader_readMap_61.2.2.2.2.2.2.2.2.2.2.2.2.2.2.2.2.2.2.2.2.2.2.1
theorem d_Reader_readMap_102 : decode prog_8_method_4_code 102 = .ok (.iload_n 2, 1) := F_Reader_readMap_61.2.2.2.2.2.2.2.2.2.2.2.2.2.2.2.2.2.2.2.2.2.2.2.1
theorem d_Reader_readMap_103 : decode prog_8_method_4_code 103 = .ok (.aaload, 1) := F_Reader_readMap_61.2.2.2.2.2.2.2.2.2.2.2.2.2.2.2.2.2.2.2.2.2.2.2.2.1
theorem d_Reader_readMap_104 : decode prog_8_method_4_code 104 = .ok (.iconst 0, 1) := F_Reader_readMap_61.2.2.2.2.2.2.2.2.2.2.2.2.2.2.2.2.2.2.2.2.2.2.2.2.2.1
theorem d_Reader_readMap_105 : decode prog_8_method_4_code 105 = .ok (.aload_n 0, 1) := F_Reader_readMap_61.2.2.2.2.2.2.2.2.2.2.2.2.2.2.2.2.2.2.2.2.2.2.2.2.2.2.1
theorem d_Reader_readMap_106 : decode prog_8_method_4_code 106 = .ok (.getfield 22, 3) := F_Reader_readMap_61.2.2.2.2.2.2.2.2.2.2.2.2.2.2.2.2.2.2.2.2.2.2.2.2.2.2.2.1
theorem d_Reader_readMap_109 : decode prog_8_method_4_code 109 = .ok (.invokevirtual 131, 3) := F_Reader_readMap_61.2.2.2.2.2.2.2.2.2.2.2.2.2.2.2.2.2.2.2.2.2.2.2.2.2.2.2.2.1
theorem d_Reader_readMap_112 : decode prog_8_method_4_code 112 = .ok (.aload_n 0, 1) := F_Reader_readMap_61.2.2.2.2.2.2.2.2.2.2.2.2.2.2.2.2.2.2.2.2.2.2.2.2.2.2.2.2.2.1
theorem d_Reader_readMap_113 : decode prog_8_method_4_code 113 = .ok (.getfield 22, 3) := F_Reader_readMap_61.2.2.2.2.2.2.2.2.2.2.2.2.2.2.2.2.2.2.2.2.2.2.2.2.2.2.2.2.2.2.1
theorem d_Reader_readMap_116 : decode prog_8_method_4_code 116 = .ok (.invokestatic 137, 3) := F_Reader_readMap_61.2.2.2.2.2.2.2.2.2.2.2.2.2.2.2.2.2.2.2.2.2.2.2.2.2.2.2.2.2.2.2.1
theorem F_Reader_readMap_119 : Jvm.Free.DS.Facts prog_8_method_4_code 119 [(.ifCond .eq (9), 3), (.aload_n 0, 1), (.iconst 4, 1), (.invokevirtual 88, 3), (.ireturn, 1), (.aload_n 0, 1), (.getfield 37, 3), (.aload_n 0, 1), (.getfield 22, 3), (.invokevirtual 143, 3), (.aload_n 0, 1), (.invokevirtual 66, 3), (.iconst 1, 1), (.ireturn, 1)] := Jvm.Free.DS.facts 119 _ (by decide +kernel) (by decide +kernel)
theorem d_Reader_readMap_119 : decode prog_8_method_4_code 119 = .ok (.ifCond .eq (9), 3) := F_Reader_readMap_119.1
theorem d_Reader_readMap_122 : decode prog_8_method_4_code 122 = .ok (.aload_n 0, 1) := F_Reader_readMap_119.2.1
theorem d_Reader_readMap_123 : decode prog_8_method_4_code 123 = .ok (.iconst 4, 1) := F_Reader_readMap_119.2.2.1
theorem d_Reader_readMap_124 : decode prog_8_method_4_code 124 = .ok (.invokevirtual 88, 3) := F_Reader_readMap_119.2.2.2.1
theorem d_Reader_readMap_127 : decode prog_8_method_4_code 127 = .ok (.ireturn, 1) := F_Reader_readMap_119.2.2.2.2.1
theorem d_Reader_readMap_128 : decode prog_8_method_4_code 128 = .ok (.aload_n 0, 1) := F_Reader_readMap_119.2.2.2.2.2.1
theorem d_Reader_readMap_129 : decode prog_8_method_4_code 129 = .ok (.getfield 37, 3) := F_Reader_readMap_119.2.2.2.2.2.2.1
theorem d_Reader_readMap_132 : decode prog_8_method_4_code 132 = .ok (.aload_n 0, 1) := F_Reader_readMap_119.2.2.2.2.2.2.2.1
theorem d_Reader_readMap_133 : decode prog_8_method_4_code 133 = .ok (.getfield 22, 3) := F_Reader_readMap_119.2.2.2.2.2.2.2.2.1
theorem d_Reader_readMap_136 : decode prog_8_method_4_code 136 = .ok (.invokevirtual 143, 3) := F_Reader_readMap_119.2.2.2.2.2.2.2.2.2.1
theorem d_Reader_readMap_139 : decode prog_8_method_4_code 139 = .ok (.aload_n 0, 1) := F_Reader_readMap_119.2.2.2.2.2.2.2.2.2.2.1
theorem d_Reader_readMap_140 : decode prog_8_method_4_code 140 = .ok (.invokevirtual 66, 3) := F_Reader_readMap_119.2.2.2.2.2.2.2.2.2.2.2.1
theorem d_Reader_readMap_143 : decode prog_8_method_4_code 143 = .ok (.iconst 1, 1) := F_Reader_readMap_119.2.2.2.2.2.2.2.2.2.2.2.2.1
theorem d_Reader_readMap_144 : decode prog_8_method_4_code 144 = .ok (.ireturn, 1) := F_Reader_readMap_119.2.2.2.2.2.2.2.2.2.2.2.2.2.1
theorem F_Reader_readToldQuad_0 : Jvm.Free.DS.Facts prog_8_method_7_code 0 [(.aload_n 0, 1), (.invokevirtual 157, 3), (.ifCond .eq (21), 3), (.aload_n 0, 1), (.aload_n 0, 1), (.getfield 9, 3), (.aload_n 0, 1), (.getfield 37, 3), (.getfield 94, 3), (.invokevirtual 160, 3), (.goto (4), 3), (.iconst (-1), 1), (.istore_n 1, 1), (.iload_n 1, 1), (.iconst (-1), 1), (.if_icmp .ne (12), 3), (.aload_n 0, 1), (.iconst 1, 1), (.invokevirtual 88, 3), (.pop, 1), (.goto (7), 3), (.aload_n 0, 1), (.invokevirtual 66, 3), (.iload_n 1, 1), (.ireturn, 1)] := Jvm.Free.DS.facts 0 _ (by decide +kernel) (by decide +kernel)
theorem d_Reader_readToldQuad_0 : decode prog_8_method_7_code 0 = .ok (.aload_n 0, 1) := F_Reader_readToldQuad_0.1
theorem d_Reader_readToldQuad_1 : decode prog_8_method_7_code 1 = .ok (.invokevirtual 157, 3) := F_Reader_readToldQuad_0.2.1
theorem d_Reader_readToldQuad_4 : decode prog_8_method_7_code 4 = .ok (.ifCond .eq (21), 3) := F_Reader_readToldQuad_0.2.2.1
theorem d_Reader_readToldQuad_7 : decode prog_8_method_7_code 7 = .ok (.aload_n 0, 1) := F_Reader_readToldQuad_0.2.2.2.1
theorem d_Reader_readToldQuad_8 : decode prog_8_method_7_code 8 = .ok (.aload_n 0, 1) := F_Reader_readToldQuad_0.2.2.2.2.1
theorem d_Reader_readToldQuad_9 : decode prog_8_method_7_code 9 = .ok (.getfield 9, 3) := F_Reader_readToldQuad_0.2.2.2.2.2.1
theorem d_Reader_readToldQuad_12 : decode prog_8_method_7_code 12 = .ok (.aload_n 0, 1) := F_Reader_readToldQuad_0.2.2.2.2.2.2.1
theorem d_Reader_readToldQuad_13 : decode prog_8_method_7_code 13 = .ok (.getfield 37, 3) := F_Reader_readToldQuad_0.2.2.2.2.2.2.2.1
theorem d_Reader_readToldQuad_16 : decode prog_8_method_7_code 16 = .ok (.getfield 94, 3) := F_Reader_readToldQuad_0.2.2.2.2.2.2.2.2.1
theorem d_Reader_readToldQuad_19 : decode prog_8_method_7_code 19 = .ok (.invokevirtual 160, 3) := F_Reader_readToldQuad_0.2.2.2.2.2.2.2.2.2.1
theorem d_Reader_readToldQuad_22 : decode prog_8_method_7_code 22 = .ok (.goto (4), 3) := F_Reader_readToldQuad_0.2.2.2.2.2.2.2.2.2.2.1
theorem d_Reader_readToldQuad_25 : decode prog_8_method_7_code 25 = .ok (.iconst (-1), 1) := F_Reader_readToldQuad_0.2.2.2.2.2.2.2.2.2.2.2.1
theorem d_Reader_readToldQuad_26 : decode prog_8_method_7_code 26 = .ok (.istore_n 1, 1) := F_Reader_readToldQuad_0.2.2.2.2.2.2.2.2.2.2.2.2.1
theorem d_Reader_readToldQuad_27 : decode prog_8_method_7_code 27 = .ok (.iload_n 1, 1) := F_Reader_readToldQuad_0.2.2.2.2.2.2.2.2.2.2.2.2.2.1
theorem d_Reader_readToldQuad_28 : decode prog_8_method_7_code 28 = .ok (.iconst (-1), 1) := F_Reader_readToldQuad_0.2.2.2.2.2.2.2.2.2.2.2.2.2.2.1
theorem d_Reader_readToldQuad_29 : decode prog_8_method_7_code 29 = .ok (.if_icmp .ne (12), 3) := F_Reader_readToldQuad_0.2.2.2.2.2.2.2.2.2.2.2.2.2.2.2.1
theorem d_Reader_readToldQuad_32 : decode prog_8_method_7_code 32 = .ok (.aload_n 0, 1) := F_Reader_readToldQuad_0.2.2.2.2.2.2.2.2.2.2.2.2.2.2.2.2.1
theorem d_Reader_readToldQuad_33 : decode prog_8_method_7_code 33 = .ok (.iconst 1, 1) := F_Reader_readToldQuad_0.2.2.2.2.2.2.2.2.2.2.2.2.2.2.2.2.2.1
theorem d_Reader_readToldQuad_34 : decode prog_8_method_7_code 34 = .ok (.invokevirtual 88, 3) := F_Reader_readToldQuad_0.2.2.2.2.2.2.2.2.2.2.2.2.2.2.2.2.2.2.1
theorem d_Reader_readToldQuad_37 : decode prog_8_method_7_code 37 = .ok (.pop, 1) := F_Reader_readToldQuad_0.2.2.2.2.2.2.2.2.2.2.2.2.2.2.2.2.2.2.2.1
theorem d_Reader_readToldQuad_38 : decode prog_8_method_7_code 38 = .ok (.goto (7), 3) := F_Reader_readToldQuad_0.2.2.2.2.2.2.2.2.2.2.2.2.2.2.2.2.2.2.2.2.1
theorem d_Reader_readToldQuad_41 : decode prog_8_method_7_code 41 = .ok (.aload_n 0, 1) := F_Reader_readToldQuad_0.2.2.2.2.2.2.2.2.2.2.2.2.2.2.2.2.2.2.2.2.2.1
theorem d_Reader_readToldQuad_42 : decode prog_8_method_7_code 42 = .ok (.invokevirtual 66, 3) := F_Reader_readToldQuad_0.2.2.2.2.2.2.2.2.2.2.2.2.2.2.2.2.2.2.2.2.2.2.1
theorem d_Reader_readToldQuad_45 : decode prog_8_method_7_code 45 = .ok (.iload_n 1, 1) := F_Reader_readToldQuad_0.2.2.2.2.2.2.2.2.2.2.2.2.2.2.2.2.2.2.2.2.2.2.2.1
theorem d_Reader_readToldQuad_46 : decode prog_8_method_7_code 46 = .ok (.ireturn, 1) := F_Reader_readToldQuad_0.2.2.2.2.2.2.2.2.2.2.2.2.2.2.2.2.2.2.2.2.2.2.2.2.1
theorem F_Maker_between_0 : Jvm.Free.DS.Facts prog_2_method_2_code 0 [(.aload_n 1, 1), (.iconst 0, 1), (.aload_n 0, 1), (.getfield 7, 3), (.invokevirtual 23, 3), (.aload_n 0, 1), (.getfield 7, 3), (.aload_n 0, 1), (.getfield 13, 3), (.invokestatic 27, 3), (.aload_n 2, 1), (.iload_n 3, 1), (.aload_n 0, 1), (.getfield 7, 3), (.invokevirtual 23, 3), (.aload_n 0, 1), (.getfield 7, 3), (.aload_n 0, 1), (.getfield 13, 3), (.aload 4, 2), (.invokestatic 33, 3), (.return_, 1)] := Jvm.Free.DS.facts 0 _ (by decide +kernel) (by decide +kernel)
theorem d_Maker_between_0 : decode prog_2_method_2_code 0 = .ok (.aload_n 1, 1) := F_Maker_between_0.1
theorem d_Maker_between_1 : decode prog_2_method_2_code 1 = .ok (.iconst 0, 1) := F_Maker_between_0.2.1
theorem d_Maker_between_2 : decode prog_2_method_2_code 2 = .ok (.aload_n 0, 1) := F_Maker_between_0.2.2.1
theorem d_Maker_between_3 : decode prog_2_method_2_code 3 = .ok (.getfield 7, 3) := F_Maker_between_0.2.2.2.1
theorem d_Maker_between_6 : decode prog_2_method_2_code 6 = .ok (.invokevirtual 23, 3) := F_Maker_between_0.2.2.2.2.1
theorem d_Maker_between_9 : decode prog_2_method_2_code 9 = .ok (.aload_n 0, 1) := F_Maker_between_0.2.2.2.2.2.1
theorem d_Maker_between_10 : decode prog_2_method_2_code 10 = .ok (.getfield 7, 3) := F_Maker_between_0.2.2.2.2.2.2.1
theorem d_Maker_between_13 : decode prog_2_method_2_code 13 = .ok (.aload_n 0, 1) := F_Maker_between_0.2.2.2.2.2.2.2.1
theorem d_Maker_between_14 : decode prog_2_method_2_code 14 = .ok (.getfield 13, 3) := F_Maker_between_0.2.2.2.2.2.2.2.2.1
theorem d_Maker_between_17 : decode prog_2_method_2_code 17 = .ok (.invokestatic 27, 3) := F_Maker_between_0.2.2.2.2.2.2.2.2.2.1
theorem d_Maker_between_20 : decode prog_2_method_2_code 20 = .ok (.aload_n 2, 1) := F_Maker_between_0.2.2.2.2.2.2.2.2.2.2.1
theorem d_Maker_between_21 : decode prog_2_method_2_code 21 = .ok (.iload_n 3, 1) := F_Maker_between_0.2.2.2.2.2.2.2.2.2.2.2.1
theorem d_Maker_between_22 : decode prog_2_method_2_code 22 = .ok (.aload_n 0, 1) := F_Maker_between_0.2.2.2.2.2.2.2.2.2.2.2.2.1
theorem d_Maker_between_23 : decode prog_2_method_2_code 23 = .ok (.getfield 7, 3) := F_Maker_between_0.2.2.2.2.2.2.2.2.2.2.2.2.2.1
theorem d_Maker_between_26 : decode prog_2_method_2_code 26 = .ok (.invokevirtual 23, 3) := F_Maker_between_0.2.2.2.2.2.2.2.2.2.2.2.2.2.2.1
theorem d_Maker_between_29 : decode prog_2_method_2_code 29 = .ok (.aload_n 0, 1) := F_Maker_between_0.2.2.2.2.2.2.2.2.2.2.2.2.2.2.2.1
theorem d_Maker_between_30 : decode prog_2_method_2_code 30 = .ok (.getfield 7, 3) := F_Maker_between_0.2.2.2.2.2.2.2.2.2.2.2.2.2.2.2.2.1
theorem d_Maker_between_33 : decode prog_2_method_2_code 33 = .ok (.aload_n 0, 1) := F_Maker_between_0.2.2.2.2.2.2.2.2.2.2.2.2.2.2.2.2.2.1
theorem d_Maker_between_34 : decode prog_2_method_2_code 34 = .ok (.getfield 13, 3) := F_Maker_between_0.2.2.2.2.2.2.2.2.2.2.2.2.2.2.2.2.2.2.1
theorem d_Maker_between_37 : decode prog_2_method_2_code 37 = .ok (.aload 4, 2) := F_Maker_between_0.2.2.2.2.2.2.2.2.2.2.2.2.2.2.2.2.2.2.2.1
theorem d_Maker_between_39 : decode prog_2_method_2_code 39 = .ok (.invokestatic 33, 3) := F_Maker_between_0.2.2.2.2.2.2.2.2.2.2.2.2.2.2.2.2.2.2.2.2.1
theorem d_Maker_between_42 : decode prog_2_method_2_code 42 = .ok (.return_, 1) := F_Maker_between_0.2.2.2.2.2.2.2.2.2.2.2.2.2.2.2.2.2.2.2.2.2.1
theorem F_Quad_putFrame_0 : Jvm.Free.DS.Facts prog_7_method_14_code 0 [(.aload_n 0, 1), (.getfield 11, 3), (.getstatic 62, 3), (.iconst 4, 1), (.iload_n 1, 1), (.imul, 1), (.iaload, 1), (.aaload, 1), (.astore_n 3, 1), (.aload_n 0, 1), (.getfield 11, 3), (.getstatic 62, 3), (.iconst 4, 1), (.iload_n 1, 1), (.imul, 1), (.iconst 1, 1), (.iadd, 1), (.iaload, 1), (.aaload, 1), (.astore 4, 2), (.aload_n 0, 1), (.getfield 11, 3), (.getstatic 62, 3), (.iconst 4, 1), (.iload_n 1, 1), (.imul, 1), (.iconst 2, 1), (.iadd, 1), (.iaload, 1), (.aaload, 1), (.astore 5, 2), (.aload_n 0, 1)] := Jvm.Free.DS.facts 0 _ (by decide +kernel) (by decide +kernel)
theorem d_Quad_putFrame_0 : decode prog_7_method_14_code 0 = .ok (.aload_n 0, 1) := F_Quad_putFrame_0.1
theorem d_Quad_putFrame_1 : decode prog_7_method_14_code 1 = .ok (.getfield 11, 3) := F_Quad_putFrame_0.2.1
theorem d_Quad_putFrame_4 : decode prog_7_method_14_code 4 = .ok (.getstatic 62, 3) := F_Quad_putFrame_0.2.2.1
theorem d_Quad_putFrame_7 : decode prog_7_method_14_code 7 = .ok (.iconst 4, 1) := F_Quad_putFrame_0.2.2.2.1
theorem d_Quad_putFrame_8 : decode prog_7_method_14_code 8 = .ok (.iload_n 1, 1) := F_Quad_putFrame_0.2.2.2.2.1
theorem d_Quad_putFrame_9 : decode prog_7_method_14_code 9 = .ok (.imul, 1) := F_Quad_putFrame_0.2.2.2.2.2.1
theorem d_Quad_putFrame_10 : decode prog_7_method_14_code 10 = .ok (.iaload, 1) := F_Quad_putFrame_0.2.2.2.2.2.2.1
theorem d_Quad_putFrame_11 : decode prog_7_method_14_code 11 = .ok (.aaload, 1) := F_Quad_putFrame_0.2.2.2.2.2.2.2.1
theorem d_Quad_putFrame_12 : decode prog_7_method_14_code 12 = .ok (.astore_n 3, 1) := F_Quad_putFrame_0.2.2.2.2.2.2.2.2.1
theorem d_Quad_putFrame_13 : decode prog_7_method_14_code 13 = .ok (.aload_n 0, 1) := F_Quad_putFrame_0.2.2.2.2.2.2.2.2.2.1
theorem d_Quad_putFrame_14 : decode prog_7_method_14_code 14 = .ok (.getfield 11, 3) := F_Quad_putFrame_0.2.2.2.2.2.2.2.2.2.2.1
theorem d_Quad_putFrame_17 : decode prog_7_method_14_code 17 = .ok (.getstatic 62, 3) := F_Quad_putFrame_0.2.2.2.2.2.2.2.2.2.2.2.1
theorem d_Quad_putFrame_20 : decode prog_7_method_14_code 20 = .ok (.iconst 4, 1) := F_Quad_putFrame_0.2.2.2.2.2.2.2.2.2.2.2.2.1
theorem d_Quad_putFrame_21 : decode prog_7_method_14_code 21 = .ok (.iload_n 1, 1) := F_Quad_putFrame_0.2.2.2.2.2.2.2.2.2.2.2.2.2.1
theorem d_Quad_putFrame_22 : decode prog_7_method_14_code 22 = .ok (.imul, 1) := F_Quad_putFrame_0.2.2.2.2.2.2.2.2.2.2.2.2.2.2.1
theorem d_Quad_putFrame_23 : decode prog_7_method_14_code 23 = .ok (.iconst 1, 1) := F_Quad_putFrame_0.2.2.2.2.2.2.2.2.2.2.2.2.2.2.2.1
theorem d_Quad_putFrame_24 : decode prog_7_method_14_code 24 = .ok (.iadd, 1) := F_Quad_putFrame_0.2.2.2.2.2.2.2.2.2.2.2.2.2.2.2.2.1
theorem d_Quad_putFrame_25 : decode prog_7_method_14_code 25 = .ok (.iaload, 1) := F_Quad_putFrame_0.2.2.2.2.2.2.2.2.2.2.2.2.2.2.2.2.2.1
theorem d_Quad_putFrame_26 : decode prog_7_method_14_code 26 = .ok (.aaload, 1) := F_Quad_putFrame_0.2.2.2.2.2.2.2.2.2.2.2.2.2.2.2.2.2.2.1
theorem d_Quad_putFrame_27 : decode prog_7_method_14_code 27 = .ok (.astore 4, 2) := F_Quad_putFrame_0.2.2.2.2.2.2.2.2.2.2.2.2.2.2.2.2.2.2.2.1
theorem d_Quad_putFrame_29 : decode prog_7_method_14_code 29 = .ok (.aload_n 0, 1) := F_Quad_putFrame_0.2.2.2.2.2.2.2.2.2.2.2.2.2.2.2.2.2.2.2.2.1
theorem d_Quad_putFrame_30 : decode prog_7_method_14_code 30 = .ok (.getfield 11, 3) := F_Quad_putFrame_0.2.2.2.2.2.2.2.2.2.2.2.2.2.2.2.2.2.2.2.2.2.1
theorem d_Quad_putFrame_33 : decode prog_7_method_14_code 33 = .ok (.getstatic 62, 3) := F_Quad_putFrame_0.2.2.2.2.2.2.2.2.2.2.2.2.2.2.2.2.2.2.2.2.2.2.1
theorem d_Quad_putFrame_36 : decode prog_7_method_14_code 36 = .ok (.iconst 4, 1) := F_Quad_putFrame_0.2.2.2.2.2.2.2.2.2.2.2.2.2.2.2.2.2.2.2.2.2.2.2.1
theorem d_Quad_putFrame_37 : decode prog_7_method_14_code 37 = .ok (.iload_n 1, 1) := F_Quad_putFrame_0.2.2.2.2.2.2.2.2.2.2.2.2.2.2.2.2.2.2.2.2.2.2.2.2.1
theorem d_Quad_putFrame_38 : decode prog_7_method_14_code 38 = .ok (.imul, 1) := F_Quad_putFrame_0.2.2.2.2.2.2.2.2.2.2.2.2.2.2.2.2.2.2.2.2.2.2.2.2.2.1
theorem d_Quad_putFrame_39 : decode prog_7_method_14_code 39 = .ok (.iconst 2, 1) := F_Quad_putFrame_0.2.2.2.2.2.2.2.2.2.2.2.2.2.2.2.2.2.2.2.2.2.2.2.2.2.2.1
theorem d_Quad_putFrame_40 : decode prog_7_method_14_code 40 = .ok (.iadd, 1) := F_Quad_putFrame_0.2.2.2.2.2.2.2.2.2.2.2.2.2.2.2.2.2.2.2.2.2.2.2.2.2.2.2.1
theorem d_Quad_putFrame_41 : decode prog_7_method_14_code 41 = .ok (.iaload, 1) := F_Quad_putFrame_0.2.2.2.2.2.2.2.2.2.2.2.2.2.2.2.2.2.2.2.2.2.2.2.2.2.2.2.2.1
theorem d_Quad_putFrame_42 : decode prog_7_method_14_code 42 = .ok (.aaload, 1) := F_Quad_putFrame_0.2.2.2.2.2.2.2.2.2.2.2.2.2.2.2.2.2.2.2.2.2.2.2.2.2.2.2.2.2.1
theorem d_Quad_putFrame_43 : decode prog_7_method_14_code 43 = .ok (.astore 5, 2) := F_Quad_putFrame_0.2.2.2.2.2.2.2.2.2.2.2.2.2.2.2.2.2.2.2.2.2.2.2.2.2.2.2.2.2.2.1
theorem d_Quad_putFrame_45 : decode prog_7_method_14_code 45 = .ok (.aload_n 0, 1) := F_Quad_putFrame_0.2.2.2.2.2.2.2.2.2.2.2.2.2.2.2.2.2.2.2.2.2.2.2.2.2.2.2.2.2.2.2.1
theorem F_Quad_putFrame_46 : Jvm.Free.DS.Facts prog_7_method_14_code 46 [(.getfield 11, 3), (.getstatic 62, 3), (.iconst 4, 1), (.iload_n 1, 1), (.imul, 1), (.iconst 3, 1), (.iadd, 1), (.iaload, 1), (.aaload, 1), (.astore 6, 2), (.aload 6, 2), (.aload 4, 2), (.aload 5, 2), (.invokestatic 16, 3), (.lstore 7, 2), (.aload_n 3, 1), (.aload 6, 2), (.aload 5, 2), (.invokestatic 16, 3), (.lstore 9, 2), (.aload_n 3, 1), (.aload 4, 2), (.aload 6, 2), (.invokestatic 16, 3), (.lstore 11, 2), (.iconst 0, 1), (.istore 13, 2), (.iload 13, 2), (.iconst 3, 1), (.if_icmp .ge (54), 3), (.aload_n 2, 1), (.iconst 3, 1)] := Jvm.Free.DS.facts 46 _ (by decide +kernel) (by decide +kernel)
theorem d_Quad_putFrame_46 : decode prog_7_method_14_code 46 = .ok (.getfield 11, 3) := F_Quad_putFrame_46.1
theorem d_Quad_putFrame_49 : decode prog_7_method_14_code 49 = .ok (.getstatic 62, 3) := F_Quad_putFrame_46.2.1
theorem d_Quad_putFrame_52 : decode prog_7_method_14_code 52 = .ok (.iconst 4, 1) := F_Quad_putFrame_46.2.2.1
theorem d_Quad_putFrame_53 : decode prog_7_method_14_code 53 = .ok (.iload_n 1, 1) := F_Quad_putFrame_46.2.2.2.1
theorem d_Quad_putFrame_54 : decode prog_7_method_14_code 54 = .ok (.imul, 1) := F_Quad_putFrame_46.2.2.2.2.1
theorem d_Quad_putFrame_55 : decode prog_7_method_14_code 55 = .ok (.iconst 3, 1) := F_Quad_putFrame_46.2.2.2.2.2.1
theorem d_Quad_putFrame_56 : decode prog_7_method_14_code 56 = .ok (.iadd, 1) := F_Quad_putFrame_46.2.2.2.2.2.2.1
theorem d_Quad_putFrame_57 : decode prog_7_method_14_code 57 = .ok (.iaload, 1) := F_Quad_putFrame_46.2.2.2.2.2.2.2.1
theorem d_Quad_putFrame_58 : decode prog_7_method_14_code 58 = .ok (.aaload, 1) := F_Quad_putFrame_46.2.2.2.2.2.2.2.2.1
theorem d_Quad_putFrame_59 : decode prog_7_method_14_code 59 = .ok (.astore 6, 2) := F_Quad_putFrame_46.2.2.2.2.2.2.2.2.2.1
theorem d_Quad_putFrame_61 : decode prog_7_method_14_code 61 = .ok (.aload 6, 2) := F_Quad_putFrame_46.2.2.2.2.2.2.2.2.2.2.1
theorem d_Quad_putFrame_63 : decode prog_7_method_14_code 63 = .ok (.aload 4, 2) := F_Quad_putFrame_46.2.2.2.2.2.2.2.2.2.2.2.1
theorem d_Quad_putFrame_65 : decode prog_7_method_14_code 65 = .ok (.aload 5, 2) := F_Quad_putFrame_46.2.2.2.2.2.2.2.2.2.2.2.2.1
theorem d_Quad_putFrame_67 : decode prog_7_method_14_code 67 = .ok (.invokestatic 16, 3) := F_Quad_putFrame_46.2.2.2.2.2.2.2.2.2.2.2.2.2.1
theorem d_Quad_putFrame_70 : decode prog_7_method_14_code 70 = .ok (.lstore 7, 2) := F_Quad_putFrame_46.2.2.2.2.2.2.2.2.2.2.2.2.2.2.1
theorem d_Quad_putFrame_72 : decode prog_7_method_14_code 72 = .ok (.aload_n 3, 1) := F_Quad_putFrame_46.2.2.2.2.2.2.2.2.2.2.2.2.2.2.2.1
theorem d_Quad_putFrame_73 : decode prog_7_method_14_code 73 = .ok (.aload 6, 2) := F_Quad_putFrame_46.2.2.2.2.2.2.2.2.2.2.2.2.2.2.2.2.1
theorem d_Quad_putFrame_75 : decode prog_7_method_14_code 75 = .ok (.aload 5, 2) := F_Quad_putFrame_46.2.2.2.2.2.2.2.2.2.2.2.2.2.2.2.2.2.1
theorem d_Quad_putFrame_77 : decode prog_7_method_14_code 77 = .ok (.invokestatic 16, 3) := F_Quad_putFrame_46.2.2.2.2.2.2.2.2.2.2.2.2.2.2.2.2.2.2.1
theorem d_Quad_putFrame_80 : decode prog_7_method_14_code 80 = .ok (.lstore 9, 2) := F_Quad_putFrame_46.2.2.2.2.2.2.2.2.2.2.2.2.2.2.2.2.2.2.2.1
theorem d_Quad_putFrame_82 : decode prog_7_method_14_code 82 = .ok (.aload_n 3, 1) := F_Quad_putFrame_46.2.2.2.2.2.2.2.2.2.2.2.2.2.2.2.2.2.2.2.2.1
theorem d_Quad_putFrame_83 : decode prog_7_method_14_code 83 = .ok (.aload 4, 2) := F_Quad_putFrame_46.2.2.2.2.2.2.2.2.2.2.2.2.2.2.2.2.2.2.2.2.2.1
theorem d_Quad_putFrame_85 : decode prog_7_method_14_code 85 = .ok (.aload 6, 2) := F_Quad_putFrame_46.2.2.2.2.2.2.2.2.2.2.2.2.2.2.2.2.2.2.2.2.2.2.1
theorem d_Quad_putFrame_87 : decode prog_7_method_14_code 87 = .ok (.invokestatic 16, 3) := F_Quad_putFrame_46.2.2.2.2.2.2.2.2.2.2.2.2.2.2.2.2.2.2.2.2.2.2.2.1
theorem d_Quad_putFrame_90 : decode prog_7_method_14_code 90 = .ok (.lstore 11, 2) := F_Quad_putFrame_46.2.2.2.2.2.2.2.2.2.2.2.2.2.2.2.2.2.2.2.2.2.2.2.2.1
theorem d_Quad_putFrame_92 : decode prog_7_method_14_code 92 = .ok (.iconst 0, 1) := F_Quad_putFrame_46.2.2.2.2.2.2.2.2.2.2.2.2.2.2.2.2.2.2.2.2.2.2.2.2.2.1
theorem d_Quad_putFrame_93 : decode prog_7_method_14_code 93 = .ok (.istore 13, 2) := F_Quad_putFrame_46.2.2.2.2.2.2.2.2.2.2.2.2.2.2.2.2.2.2.2.2.2.2.2.2.2.2.1
theorem d_Quad_putFrame_95 : decode prog_7_method_14_code 95 = .ok (.iload 13, 2) := F_Quad_putFrame_46.2.2.2.2.2.2.2.2.2.2.2.2.2.2.2.2.2.2.2.2.2.2.2.2.2.2.2.1
theorem d_Quad_putFrame_97 : decode prog_7_method_14_code 97 = .ok (.iconst 3, 1) := F_Quad_putFrame_46.2.2.2.2.2.2.2.2.2.2.2.2.2.2.2.2.2.2.2.2.2.2.2.2.2.2.2.2.1
theorem d_Quad_putFrame_98 : decode prog_7_method_14_code 98 = .ok (.if_icmp .ge (54), 3) := F_Quad_putFrame_46.2.2.2.2.2.2.2.2.2.2.2.2.2.2.2.2.2.2.2.2.2.2.2.2.2.2.2.2.2.1
theorem d_Quad_putFrame_101 : decode prog_7_method_14_code 101 = .ok (.aload_n 2, 1) := F_Quad_putFrame_46.2.2.2.2.2.2.2.2.2.2.2.2.2.2.2.2.2.2.2.2.2.2.2.2.2.2.2.2.2.2.1
theorem d_Quad_putFrame_102 : decode prog_7_method_14_code 102 = .ok (.iconst 3, 1) := F_Quad_putFrame_46.2.2.2.2.2.2.2.2.2.2.2.2.2.2.2.2.2.2.2.2.2.2.2.2.2.2.2.2.2.2.2.1
theorem F_Quad_putFrame_103 : Jvm.Free.DS.Facts prog_7_method_14_code 103 [(.iload 13, 2), (.imul, 1), (.lload 7, 2), (.aload_n 3, 1), (.iload 13, 2), (.laload, 1), (.lmul, 1), (.lastore, 1), (.aload_n 2, 1), (.iconst 3, 1), (.iload 13, 2), (.imul, 1), (.iconst 1, 1), (.iadd, 1), (.lload 9, 2), (.aload 4, 2), (.iload 13, 2), (.laload, 1), (.lmul, 1), (.lastore, 1), (.aload_n 2, 1), (.iconst 3, 1), (.iload 13, 2), (.imul, 1), (.iconst 2, 1), (.iadd, 1), (.lload 11, 2), (.aload 5, 2), (.iload 13, 2), (.laload, 1), (.lmul, 1), (.lastore, 1)] := Jvm.Free.DS.facts 103 _ (by decide +kernel) (by decide +kernel)
theorem d_Quad_putFrame_103 : decode prog_7_method_14_code 103 = .ok (.iload 13, 2) := F_Quad_putFrame_103.1
theorem d_Quad_putFrame_105 : decode prog_7_method_14_code 105 = .ok (.imul, 1) := F_Quad_putFrame_103.2.1
theorem d_Quad_putFrame_106 : decode prog_7_method_14_code 106 = .ok (.lload 7, 2) := F_Quad_putFrame_103.2.2.1
theorem d_Quad_putFrame_108 : decode prog_7_method_14_code 108 = .ok (.aload_n 3, 1) := F_Quad_putFrame_103.2.2.2.1
theorem d_Quad_putFrame_109 : decode prog_7_method_14_code 109 = .ok (.iload 13, 2) := F_Quad_putFrame_103.2.2.2.2.1
theorem d_Quad_putFrame_111 : decode prog_7_method_14_code 111 = .ok (.laload, 1) := F_Quad_putFrame_103.2.2.2.2.2.1
theorem d_Quad_putFrame_112 : decode prog_7_method_14_code 112 = .ok (.lmul, 1) := F_Quad_putFrame_103.2.2.2.2.2.2.1
theorem d_Quad_putFrame_113 : decode prog_7_method_14_code 113 = .ok (.lastore, 1) := F_Quad_putFrame_103.2.2.2.2.2.2.2.1
theorem d_Quad_putFrame_114 : decode prog_7_method_14_code 114 = .ok (.aload_n 2, 1) := F_Quad_putFrame_103.2.2.2.2.2.2.2.2.1
theorem d_Quad_putFrame_115 : decode prog_7_method_14_code 115 = .ok (.iconst 3, 1) := F_Quad_putFrame_103.2.2.2.2.2.2.2.2.2.1
theorem d_Quad_putFrame_116 : decode prog_7_method_14_code 116 = .ok (.iload 13, 2) := F_Quad_putFrame_103.2.2.2.2.2.2.2.2.2.2.1
theorem d_Quad_putFrame_118 : decode prog_7_method_14_code 118 = .ok (.imul, 1) := F_Quad_putFrame_103.2.2.2.2.2.2.2.2.2.2.2.1
theorem d_Quad_putFrame_119 : decode prog_7_method_14_code 119 = .ok (.iconst 1, 1) := F_Quad_putFrame_103.2.2.2.2.2.2.2.2.2.2.2.2.1
theorem d_Quad_putFrame_120 : decode prog_7_method_14_code 120 = .ok (.iadd, 1) := F_Quad_putFrame_103.2.2.2.2.2.2.2.2.2.2.2.2.2.1
theorem d_Quad_putFrame_121 : decode prog_7_method_14_code 121 = .ok (.lload 9, 2) := F_Quad_putFrame_103.2.2.2.2.2.2.2.2.2.2.2.2.2.2.1
theorem d_Quad_putFrame_123 : decode prog_7_method_14_code 123 = .ok (.aload 4, 2) := F_Quad_putFrame_103.2.2.2.2.2.2.2.2.2.2.2.2.2.2.2.1
theorem d_Quad_putFrame_125 : decode prog_7_method_14_code 125 = .ok (.iload 13, 2) := F_Quad_putFrame_103.2.2.2.2.2.2.2.2.2.2.2.2.2.2.2.2.1
theorem d_Quad_putFrame_127 : decode prog_7_method_14_code 127 = .ok (.laload, 1) := F_Quad_putFrame_103.2.2.2.2.2.2.2.2.2.2.2.2.2.2.2.2.2.1
theorem d_Quad_putFrame_128 : decode prog_7_method_14_code 128 = .ok (.lmul, 1) := F_Quad_putFrame_103.2.2.2.2.2.2.2.2.2.2.2.2.2.2.2.2.2.2.1
theorem d_Quad_putFrame_129 : decode prog_7_method_14_code 129 = .ok (.lastore, 1) := F_Quad_putFrame_103.2.2.2.2.2.2.2.2.2.2.2.2.2.2.2.2.2.2.2.1
theorem d_Quad_putFrame_130 : decode prog_7_method_14_code 130 = .ok (.aload_n 2, 1) := F_Quad_putFrame_103.2.2.2.2.2.2.2.2.2.2.2.2.2.2.2.2.2.2.2.2.1
theorem d_Quad_putFrame_131 : decode prog_7_method_14_code 131 = .ok (.iconst 3, 1) := F_Quad_putFrame_103.2.2.2.2.2.2.2.2.2.2.2.2.2.2.2.2.2.2.2.2.2.1
theorem d_Quad_putFrame_132 : decode prog_7_method_14_code 132 = .ok (.iload 13, 2) := F_Quad_putFrame_103.2.2.2.2.2.2.2.2.2.2.2.2.2.2.2.2.2.2.2.2.2.2.1
theorem d_Quad_putFrame_134 : decode prog_7_method_14_code 134 = .ok (.imul, 1) := F_Quad_putFrame_103.2.2.2.2.2.2.2.2.2.2.2.2.2.2.2.2.2.2.2.2.2.2.2.1
theorem d_Quad_putFrame_135 : decode prog_7_method_14_code 135 = .ok (.iconst 2, 1) := F_Quad_putFrame_103.2.2.2.2.2.2.2.2.2.2.2.2.2.2.2.2.2.2.2.2.2.2.2.2.1
theorem d_Quad_putFrame_136 : decode prog_7_method_14_code 136 = .ok (.iadd, 1) := F_Quad_putFrame_103.2.2.2.2.2.2.2.2.2.2.2.2.2.2.2.2.2.2.2.2.2.2.2.2.2.1
theorem d_Quad_putFrame_137 : decode prog_7_method_14_code 137 = .ok (.lload 11, 2) := F_Quad_putFrame_103.2.2.2.2.2.2.2.2.2.2.2.2.2.2.2.2.2.2.2.2.2.2.2.2.2.2.1
theorem d_Quad_putFrame_139 : decode prog_7_method_14_code 139 = .ok (.aload 5, 2) := F_Quad_putFrame_103.2.2.2.2.2.2.2.2.2.2.2.2.2.2.2.2.2.2.2.2.2.2.2.2.2.2.2.1
theorem d_Quad_putFrame_141 : decode prog_7_method_14_code 141 = .ok (.iload 13, 2) := F_Quad_putFrame_103.2.2.2.2.2.2.2.2.2.2.2.2.2.2.2.2.2.2.2.2.2.2.2.2.2.2.2.2.1
theorem d_Quad_putFrame_143 : decode prog_7_method_14_code 143 = .ok (.laload, 1) := F_Quad_putFrame_103.2.2.2.2.2.2.2.2.2.2.2.2.2.2.2.2.2.2.2.2.2.2.2.2.2.2.2.2.2.1
theorem d_Quad_putFrame_144 : decode prog_7_method_14_code 144 = .ok (.lmul, 1) := F_Quad_putFrame_103.2.2.2.2.2.2.2.2.2.2.2.2.2.2.2.2.2.2.2.2.2.2.2.2.2.2.2.2.2.2.1
theorem d_Quad_putFrame_145 : decode prog_7_method_14_code 145 = .ok (.lastore, 1) := F_Quad_putFrame_103.2.2.2.2.2.2.2.2.2.2.2.2.2.2.2.2.2.2.2.2.2.2.2.2.2.2.2.2.2.2.2.1
theorem F_Quad_putFrame_146 : Jvm.Free.DS.Facts prog_7_method_14_code 146 [(.iinc 13 (1), 3), (.goto (-54), 3), (.return_, 1)] := Jvm.Free.DS.facts 146 _ (by decide +kernel) (by decide +kernel)
theorem d_Quad_putFrame_146 : decode prog_7_method_14_code 146 = .ok (.iinc 13 (1), 3) := F_Quad_putFrame_146.1
theorem d_Quad_putFrame_149 : decode prog_7_method_14_code 149 = .ok (.goto (-54), 3) := F_Quad_putFrame_146.2.1
theorem d_Quad_putFrame_152 : decode prog_7_method_14_code 152 = .ok (.return_, 1) := F_Quad_putFrame_146.2.2.1
theorem F_Maps_invert_0 : Jvm.Free.DS.Facts prog_3_method_9_code 0 [(.aload_n 1, 1), (.iconst 0, 1), (.aload_n 0, 1), (.iconst 4, 1), (.laload, 1), (.aload_n 0, 1), (.bipush (8), 2), (.laload, 1), (.lmul, 1), (.aload_n 0, 1), (.iconst 5, 1), (.laload, 1), (.aload_n 0, 1), (.bipush (7), 2), (.laload, 1), (.lmul, 1), (.lsub, 1), (.lastore, 1), (.aload_n 1, 1), (.iconst 1, 1), (.aload_n 0, 1), (.iconst 2, 1), (.laload, 1), (.aload_n 0, 1), (.bipush (7), 2), (.laload, 1), (.lmul, 1), (.aload_n 0, 1), (.iconst 1, 1), (.laload, 1), (.aload_n 0, 1), (.bipush (8), 2)] := Jvm.Free.DS.facts 0 _ (by decide +kernel) (by decide +kernel)
theorem d_Maps_invert_0 : decode prog_3_method_9_code 0 = .ok (.aload_n 1, 1) := F_Maps_invert_0.1
theorem d_Maps_invert_1 : decode prog_3_method_9_code 1 = .ok (.iconst 0, 1) := F_Maps_invert_0.2.1
theorem d_Maps_invert_2 : decode prog_3_method_9_code 2 = .ok (.aload_n 0, 1) := F_Maps_invert_0.2.2.1
theorem d_Maps_invert_3 : decode prog_3_method_9_code 3 = .ok (.iconst 4, 1) := F_Maps_invert_0.2.2.2.1
theorem d_Maps_invert_4 : decode prog_3_method_9_code 4 = .ok (.laload, 1) := F_Maps_invert_0.2.2.2.2.1
theorem d_Maps_invert_5 : decode prog_3_method_9_code 5 = .ok (.aload_n 0, 1) := F_Maps_invert_0.2.2.2.2.2.1
theorem d_Maps_invert_6 : decode prog_3_method_9_code 6 = .ok (.bipush (8), 2) := F_Maps_invert_0.2.2.2.2.2.2.1
theorem d_Maps_invert_8 : decode prog_3_method_9_code 8 = .ok (.laload, 1) := F_Maps_invert_0.2.2.2.2.2.2.2.1
theorem d_Maps_invert_9 : decode prog_3_method_9_code 9 = .ok (.lmul, 1) := F_Maps_invert_0.2.2.2.2.2.2.2.2.1
theorem d_Maps_invert_10 : decode prog_3_method_9_code 10 = .ok (.aload_n 0, 1) := F_Maps_invert_0.2.2.2.2.2.2.2.2.2.1
theorem d_Maps_invert_11 : decode prog_3_method_9_code 11 = .ok (.iconst 5, 1) := F_Maps_invert_0.2.2.2.2.2.2.2.2.2.2.1
theorem d_Maps_invert_12 : decode prog_3_method_9_code 12 = .ok (.laload, 1) := F_Maps_invert_0.2.2.2.2.2.2.2.2.2.2.2.1
theorem d_Maps_invert_13 : decode prog_3_method_9_code 13 = .ok (.aload_n 0, 1) := F_Maps_invert_0.2.2.2.2.2.2.2.2.2.2.2.2.1
theorem d_Maps_invert_14 : decode prog_3_method_9_code 14 = .ok (.bipush (7), 2) := F_Maps_invert_0.2.2.2.2.2.2.2.2.2.2.2.2.2.1
theorem d_Maps_invert_16 : decode prog_3_method_9_code 16 = .ok (.laload, 1) := F_Maps_invert_0.2.2.2.2.2.2.2.2.2.2.2.2.2.2.1
theorem d_Maps_invert_17 : decode prog_3_method_9_code 17 = .ok (.lmul, 1) := F_Maps_invert_0.2.2.2.2.2.2.2.2.2.2.2.2.2.2.2.1
theorem d_Maps_invert_18 : decode prog_3_method_9_code 18 = .ok (.lsub, 1) := F_Maps_invert_0.2.2.2.2.2.2.2.2.2.2.2.2.2.2.2.2.1
theorem d_Maps_invert_19 : decode prog_3_method_9_code 19 = .ok (.lastore, 1) := F_Maps_invert_0.2.2.2.2.2.2.2.2.2.2.2.2.2.2.2.2.2.1
theorem d_Maps_invert_20 : decode prog_3_method_9_code 20 = .ok (.aload_n 1, 1) := F_Maps_invert_0.2.2.2.2.2.2.2.2.2.2.2.2.2.2.2.2.2.2.1
theorem d_Maps_invert_21 : decode prog_3_method_9_code 21 = .ok (.iconst 1, 1) := F_Maps_invert_0.2.2.2.2.2.2.2.2.2.2.2.2.2.2.2.2.2.2.2.1
theorem d_Maps_invert_22 : decode prog_3_method_9_code 22 = .ok (.aload_n 0, 1) := F_Maps_invert_0.2.2.2.2.2.2.2.2.2.2.2.2.2.2.2.2.2.2.2.2.1
theorem d_Maps_invert_23 : decode prog_3_method_9_code 23 = .ok (.iconst 2, 1) := F_Maps_invert_0.2.2.2.2.2.2.2.2.2.2.2.2.2.2.2.2.2.2.2.2.2.1
theorem d_Maps_invert_24 : decode prog_3_method_9_code 24 = .ok (.laload, 1) := F_Maps_invert_0.2.2.2.2.2.2.2.2.2.2.2.2.2.2.2.2.2.2.2.2.2.2.1
theorem d_Maps_invert_25 : decode prog_3_method_9_code 25 = .ok (.aload_n 0, 1) := F_Maps_invert_0.2.2.2.2.2.2.2.2.2.2.2.2.2.2.2.2.2.2.2.2.2.2.2.1
theorem d_Maps_invert_26 : decode prog_3_method_9_code 26 = .ok (.bipush (7), 2) := F_Maps_invert_0.2.2.2.2.2.2.2.2.2.2.2.2.2.2.2.2.2.2.2.2.2.2.2.2.1
theorem d_Maps_invert_28 : decode prog_3_method_9_code 28 = .ok (.laload, 1) := F_Maps_invert_0.2.2.2.2.2.2.2.2.2.2.2.2.2.2.2.2.2.2.2.2.2.2.2.2.2.1
theorem d_Maps_invert_29 : decode prog_3_method_9_code 29 = .ok (.lmul, 1) := F_Maps_invert_0.2.2.2.2.2.2.2.2.2.2.2.2.2.2.2.2.2.2.2.2.2.2.2.2.2.2.1
theorem d_Maps_invert_30 : decode prog_3_method_9_code 30 = .ok (.aload_n 0, 1) := F_Maps_invert_0.2.2.2.2.2.2.2.2.2.2.2.2.2.2.2.2.2.2.2.2.2.2.2.2.2.2.2.1
theorem d_Maps_invert_31 : decode prog_3_method_9_code 31 = .ok (.iconst 1, 1) := F_Maps_invert_0.2.2.2.2.2.2.2.2.2.2.2.2.2.2.2.2.2.2.2.2.2.2.2.2.2.2.2.2.1
theorem d_Maps_invert_32 : decode prog_3_method_9_code 32 = .ok (.laload, 1) := F_Maps_invert_0.2.2.2.2.2.2.2.2.2.2.2.2.2.2.2.2.2.2.2.2.2.2.2.2.2.2.2.2.2.1
theorem d_Maps_invert_33 : decode prog_3_method_9_code 33 = .ok (.aload_n 0, 1) := F_Maps_invert_0.2.2.2.2.2.2.2.2.2.2.2.2.2.2.2.2.2.2.2.2.2.2.2.2.2.2.2.2.2.2.1
theorem d_Maps_invert_34 : decode prog_3_method_9_code 34 = .ok (.bipush (8), 2) := F_Maps_invert_0.2.2.2.2.2.2.2.2.2.2.2.2.2.2.2.2.2.2.2.2.2.2.2.2.2.2.2.2.2.2.2.1
theorem F_Maps_invert_36 : Jvm.Free.DS.Facts prog_3_method_9_code 36 [(.laload, 1), (.lmul, 1), (.lsub, 1), (.lastore, 1), (.aload_n 1, 1), (.iconst 2, 1), (.aload_n 0, 1), (.iconst 1, 1), (.laload, 1), (.aload_n 0, 1), (.iconst 5, 1), (.laload, 1), (.lmul, 1), (.aload_n 0, 1), (.iconst 2, 1), (.laload, 1), (.aload_n 0, 1), (.iconst 4, 1), (.laload, 1), (.lmul, 1), (.lsub, 1), (.lastore, 1), (.aload_n 1, 1), (.iconst 3, 1), (.aload_n 0, 1), (.iconst 5, 1), (.laload, 1), (.aload_n 0, 1), (.bipush (6), 2), (.laload, 1), (.lmul, 1), (.aload_n 0, 1)] := Jvm.Free.DS.facts 36 _ (by decide +kernel) (by decide +kernel)
theorem d_Maps_invert_36 : decode prog_3_method_9_code 36 = .ok (.laload, 1) := F_Maps_invert_36.1
theorem d_Maps_invert_37 : decode prog_3_method_9_code 37 = .ok (.lmul, 1) := F_Maps_invert_36.2.1
theorem d_Maps_invert_38 : decode prog_3_method_9_code 38 = .ok (.lsub, 1) := F_Maps_invert_36.2.2.1
theorem d_Maps_invert_39 : decode prog_3_method_9_code 39 = .ok (.lastore, 1) := F_Maps_invert_36.2.2.2.1
theorem d_Maps_invert_40 : decode prog_3_method_9_code 40 = .ok (.aload_n 1, 1) := F_Maps_invert_36.2.2.2.2.1
theorem d_Maps_invert_41 : decode prog_3_method_9_code 41 = .ok (.iconst 2, 1) := F_Maps_invert_36.2.2.2.2.2.1
theorem d_Maps_invert_42 : decode prog_3_method_9_code 42 = .ok (.aload_n 0, 1) := F_Maps_invert_36.2.2.2.2.2.2.1
theorem d_Maps_invert_43 : decode prog_3_method_9_code 43 = .ok (.iconst 1, 1) := F_Maps_invert_36.2.2.2.2.2.2.2.1
theorem d_Maps_invert_44 : decode prog_3_method_9_code 44 = .ok (.laload, 1) := F_Maps_invert_36.2.2.2.2.2.2.2.2.1
theorem d_Maps_invert_45 : decode prog_3_method_9_code 45 = .ok (.aload_n 0, 1) := F_Maps_invert_36.2.2.2.2.2.2.2.2.2.1
theorem d_Maps_invert_46 : decode prog_3_method_9_code 46 = .ok (.iconst 5, 1) := F_Maps_invert_36.2.2.2.2.2.2.2.2.2.2.1
theorem d_Maps_invert_47 : decode prog_3_method_9_code 47 = .ok (.laload, 1) := F_Maps_invert_36.2.2.2.2.2.2.2.2.2.2.2.1
theorem d_Maps_invert_48 : decode prog_3_method_9_code 48 = .ok (.lmul, 1) := F_Maps_invert_36.2.2.2.2.2.2.2.2.2.2.2.2.1
theorem d_Maps_invert_49 : decode prog_3_method_9_code 49 = .ok (.aload_n 0, 1) := F_Maps_invert_36.2.2.2.2.2.2.2.2.2.2.2.2.2.1
theorem d_Maps_invert_50 : decode prog_3_method_9_code 50 = .ok (.iconst 2, 1) := F_Maps_invert_36.2.2.2.2.2.2.2.2.2.2.2.2.2.2.1
theorem d_Maps_invert_51 : decode prog_3_method_9_code 51 = .ok (.laload, 1) := F_Maps_invert_36.2.2.2.2.2.2.2.2.2.2.2.2.2.2.2.1
theorem d_Maps_invert_52 : decode prog_3_method_9_code 52 = .ok (.aload_n 0, 1) := F_Maps_invert_36.2.2.2.2.2.2.2.2.2.2.2.2.2.2.2.2.1
theorem d_Maps_invert_53 : decode prog_3_method_9_code 53 = .ok (.iconst 4, 1) := F_Maps_invert_36.2.2.2.2.2.2.2.2.2.2.2.2.2.2.2.2.2.1
theorem d_Maps_invert_54 : decode prog_3_method_9_code 54 = .ok (.laload, 1) := F_Maps_invert_36.2.2.2.2.2.2.2.2.2.2.2.2.2.2.2.2.2.2.1
theorem d_Maps_invert_55 : decode prog_3_method_9_code 55 = .ok (.lmul, 1) := F_Maps_invert_36.2.2.2.2.2.2.2.2.2.2.2.2.2.2.2.2.2.2.2.1
theorem d_Maps_invert_56 : decode prog_3_method_9_code 56 = .ok (.lsub, 1) := F_Maps_invert_36.2.2.2.2.2.2.2.2.2.2.2.2.2.2.2.2.2.2.2.2.1
theorem d_Maps_invert_57 : decode prog_3_method_9_code 57 = .ok (.lastore, 1) := F_Maps_invert_36.2.2.2.2.2.2.2.2.2.2.2.2.2.2.2.2.2.2.2.2.2.1
theorem d_Maps_invert_58 : decode prog_3_method_9_code 58 = .ok (.aload_n 1, 1) := F_Maps_invert_36.2.2.2.2.2.2.2.2.2.2.2.2.2.2.2.2.2.2.2.2.2.2.1
theorem d_Maps_invert_59 : decode prog_3_method_9_code 59 = .ok (.iconst 3, 1) := F_Maps_invert_36.2.2.2.2.2.2.2.2.2.2.2.2.2.2.2.2.2.2.2.2.2.2.2.1
theorem d_Maps_invert_60 : decode prog_3_method_9_code 60 = .ok (.aload_n 0, 1) := F_Maps_invert_36.2.2.2.2.2.2.2.2.2.2.2.2.2.2.2.2.2.2.2.2.2.2.2.2.1
theorem d_Maps_invert_61 : decode prog_3_method_9_code 61 = .ok (.iconst 5, 1) := F_Maps_invert_36.2.2.2.2.2.2.2.2.2.2.2.2.2.2.2.2.2.2.2.2.2.2.2.2.2.1
theorem d_Maps_invert_62 : decode prog_3_method_9_code 62 = .ok (.laload, 1) := F_Maps_invert_36.2.2.2.2.2.2.2.2.2.2.2.2.2.2.2.2.2.2.2.2.2.2.2.2.2.2.1
theorem d_Maps_invert_63 : decode prog_3_method_9_code 63 = .ok (.aload_n 0, 1) := F_Maps_invert_36.2.2.2.2.2.2.2.2.2.2.2.2.2.2.2.2.2.2.2.2.2.2.2.2.2.2.2.1
theorem d_Maps_invert_64 : decode prog_3_method_9_code 64 = .ok (.bipush (6), 2) := F_Maps_invert_36.2.2.2.2.2.2.2.2.2.2.2.2.2.2.2.2.2.2.2.2.2.2.2.2.2.2.2.2.1
theorem d_Maps_invert_66 : decode prog_3_method_9_code 66 = .ok (.laload, 1) := F_Maps_invert_36.2.2.2.2.2.2.2.2.2.2.2.2.2.2.2.2.2.2.2.2.2.2.2.2.2.2.2.2.2.1
theorem d_Maps_invert_67 : decode prog_3_method_9_code 67 = .ok (.lmul, 1) := F_Maps_invert_36.2.2.2.2.2.2.2.2.2.2.2.2.2.2.2.2.2.2.2.2.2.2.2.2.2.2.2.2.2.2.1
theorem d_Maps_invert_68 : decode prog_3_method_9_code 68 = .ok (.aload_n 0, 1) := F_Maps_invert_36.2.2.2.2.2.2.2.2.2.2.2.2.2.2.2.2.2.2.2.2.2.2.2.2.2.2.2.2.2.2.2.1
theorem F_Maps_invert_69 : Jvm.Free.DS.Facts prog_3_method_9_code 69 [(.iconst 3, 1), (.laload, 1), (.aload_n 0, 1), (.bipush (8), 2), (.laload, 1), (.lmul, 1), (.lsub, 1), (.lastore, 1), (.aload_n 1, 1), (.iconst 4, 1), (.aload_n 0, 1), (.iconst 0, 1), (.laload, 1), (.aload_n 0, 1), (.bipush (8), 2), (.laload, 1), (.lmul, 1), (.aload_n 0, 1), (.iconst 2, 1), (.laload, 1), (.aload_n 0, 1), (.bipush (6), 2), (.laload, 1), (.lmul, 1), (.lsub, 1), (.lastore, 1), (.aload_n 1, 1), (.iconst 5, 1), (.aload_n 0, 1), (.iconst 2, 1), (.laload, 1), (.aload_n 0, 1)] := Jvm.Free.DS.facts 69 _ (by decide +kernel) (by decide +kernel)
theorem d_Maps_invert_69 : decode prog_3_method_9_code 69 = .ok (.iconst 3, 1) := F_Maps_invert_69.1
theorem d_Maps_invert_70 : decode prog_3_method_9_code 70 = .ok (.laload, 1) := F_Maps_invert_69.2.1
theorem d_Maps_invert_71 : decode prog_3_method_9_code 71 = .ok (.aload_n 0, 1) := F_Maps_invert_69.2.2.1
theorem d_Maps_invert_72 : decode prog_3_method_9_code 72 = .ok (.bipush (8), 2) := F_Maps_invert_69.2.2.2.1
theorem d_Maps_invert_74 : decode prog_3_method_9_code 74 = .ok (.laload, 1) := F_Maps_invert_69.2.2.2.2.1
theorem d_Maps_invert_75 : decode prog_3_method_9_code 75 = .ok (.lmul, 1) := F_Maps_invert_69.2.2.2.2.2.1
theorem d_Maps_invert_76 : decode prog_3_method_9_code 76 = .ok (.lsub, 1) := F_Maps_invert_69.2.2.2.2.2.2.1
theorem d_Maps_invert_77 : decode prog_3_method_9_code 77 = .ok (.lastore, 1) := F_Maps_invert_69.2.2.2.2.2.2.2.1
theorem d_Maps_invert_78 : decode prog_3_method_9_code 78 = .ok (.aload_n 1, 1) := F_Maps_invert_69.2.2.2.2.2.2.2.2.1
theorem d_Maps_invert_79 : decode prog_3_method_9_code 79 = .ok (.iconst 4, 1) := F_Maps_invert_69.2.2.2.2.2.2.2.2.2.1
theorem d_Maps_invert_80 : decode prog_3_method_9_code 80 = .ok (.aload_n 0, 1) := F_Maps_invert_69.2.2.2.2.2.2.2.2.2.2.1
theorem d_Maps_invert_81 : decode prog_3_method_9_code 81 = .ok (.iconst 0, 1) := F_Maps_invert_69.2.2.2.2.2.2.2.2.2.2.2.1
theorem d_Maps_invert_82 : decode prog_3_method_9_code 82 = .ok (.laload, 1) := F_Maps_invert_69.2.2.2.2.2.2.2.2.2.2.2.2.1
theorem d_Maps_invert_83 : decode prog_3_method_9_code 83 = .ok (.aload_n 0, 1) := F_Maps_invert_69.2.2.2.2.2.2.2.2.2.2.2.2.2.1
theorem d_Maps_invert_84 : decode prog_3_method_9_code 84 = .ok (.bipush (8), 2) := F_Maps_invert_69.2.2.2.2.2.2.2.2.2.2.2.2.2.2.1
theorem d_Maps_invert_86 : decode prog_3_method_9_code 86 = .ok (.laload, 1) := F_Maps_invert_69.2.2.2.2.2.2.2.2.2.2.2.2.2.2.2.1
theorem d_Maps_invert_87 : decode prog_3_method_9_code 87 = .ok (.lmul, 1) := F_Maps_invert_69.2.2.2.2.2.2.2.2.2.2.2.2.2.2.2.2.1
theorem d_Maps_invert_88 : decode prog_3_method_9_code 88 = .ok (.aload_n 0, 1) := F_Maps_invert_69.2.2.2.2.2.2.2.2.2.2.2.2.2.2.2.2.2.1
theorem d_Maps_invert_89 : decode prog_3_method_9_code 89 = .ok (.iconst 2, 1) := F_Maps_invert_69.2.2.2.2.2.2.2.2.2.2.2.2.2.2.2.2.2.2.1
theorem d_Maps_invert_90 : decode prog_3_method_9_code 90 = .ok (.laload, 1) := F_Maps_invert_69.2.2.2.2.2.2.2.2.2.2.2.2.2.2.2.2.2.2.2.1
theorem d_Maps_invert_91 : decode prog_3_method_9_code 91 = .ok (.aload_n 0, 1) := F_Maps_invert_69.2.2.2.2.2.2.2.2.2.2.2.2.2.2.2.2.2.2.2.2.1
theorem d_Maps_invert_92 : decode prog_3_method_9_code 92 = .ok (.bipush (6), 2) := F_Maps_invert_69.2.2.2.2.2.2.2.2.2.2.2.2.2.2.2.2.2.2.2.2.2.1
theorem d_Maps_invert_94 : decode prog_3_method_9_code 94 = .ok (.laload, 1) := F_Maps_invert_69.2.2.2.2.2.2.2.2.2.2.2.2.2.2.2.2.2.2.2.2.2.2.1
theorem d_Maps_invert_95 : decode prog_3_method_9_code 95 = .ok (.lmul, 1) := F_Maps_invert_69.2.2.2.2.2.2.2.2.2.2.2.2.2.2.2.2.2.2.2.2.2.2.2.1
theorem d_Maps_invert_96 : decode prog_3_method_9_code 96 = .ok (.lsub, 1) := F_Maps_invert_69.2.2.2.2.2.2.2.2.2.2.2.2.2.2.2.2.2.2.2.2.2.2.2.2.1
theorem d_Maps_invert_97 : decode prog_3_method_9_code 97 = .ok (.lastore, 1) := F_Maps_invert_69.2.2.2.2.2.2.2.2.2.2.2.2.2.2.2.2.2.2.2.2.2.2.2.2.2.1
theorem d_Maps_invert_98 : decode prog_3_method_9_code 98 = .ok (.aload_n 1, 1) := F_Maps_invert_69.2.2.2.2.2.2.2.2.2.2.2.2.2.2.2.2.2.2.2.2.2.2.2.2.2.2.1
theorem d_Maps_invert_99 : decode prog_3_method_9_code 99 = .ok (.iconst 5, 1) := F_Maps_invert_69.2.2.2.2.2.2.2.2.2.2.2.2.2.2.2.2.2.2.2.2.2.2.2.2.2.2.2.1
theorem d_Maps_invert_100 : decode prog_3_method_9_code 100 = .ok (.aload_n 0, 1) := F_Maps_invert_69.2.2.2.2.2.2.2.2.2.2.2.2.2.2.2.2.2.2.2.2.2.2.2.2.2.2.2.2.1
theorem d_Maps_invert_101 : decode prog_3_method_9_code 101 = .ok (.iconst 2, 1) := F_Maps_invert_69.2.2.2.2.2.2.2.2.2.2.2.2.2.2.2.2.2.2.2.2.2.2.2.2.2.2.2.2.2.1
theorem d_Maps_invert_102 : decode prog_3_method_9_code 102 = .ok (.laload, 1) := F_Maps_invert_69.2.2.2.2.2.2.2.2.2.2.2.2.2.2.2.2.2.2.2.2.2.2.2.2.2.2.2.2.2.2.1
theorem d_Maps_invert_103 : decode prog_3_method_9_code 103 = .ok (.aload_n 0, 1) := F_Maps_invert_69.2.2.2.2.2.2.2.2.2.2.2.2.2.2.2.2.2.2.2.2.2.2.2.2.2.2.2.2.2.2.2.1
theorem F_Maps_invert_104 : Jvm.Free.DS.Facts prog_3_method_9_code 104 [(.iconst 3, 1), (.laload, 1), (.lmul, 1), (.aload_n 0, 1), (.iconst 0, 1), (.laload, 1), (.aload_n 0, 1), (.iconst 5, 1), (.laload, 1), (.lmul, 1), (.lsub, 1), (.lastore, 1), (.aload_n 1, 1), (.bipush (6), 2), (.aload_n 0, 1), (.iconst 3, 1), (.laload, 1), (.aload_n 0, 1), (.bipush (7), 2), (.laload, 1), (.lmul, 1), (.aload_n 0, 1), (.iconst 4, 1), (.laload, 1), (.aload_n 0, 1), (.bipush (6), 2), (.laload, 1), (.lmul, 1), (.lsub, 1), (.lastore, 1), (.aload_n 1, 1), (.bipush (7), 2)] := Jvm.Free.DS.facts 104 _ (by decide +kernel) (by decide +kernel)
theorem d_Maps_invert_104 : decode prog_3_method_9_code 104 = .ok (.iconst 3, 1) := F_Maps_invert_104.1
theorem d_Maps_invert_105 : decode prog_3_method_9_code 105 = .ok (.laload, 1) := F_Maps_invert_104.2.1
theorem d_Maps_invert_106 : decode prog_3_method_9_code 106 = .ok (.lmul, 1) := F_Maps_invert_104.2.2.1
theorem d_Maps_invert_107 : decode prog_3_method_9_code 107 = .ok (.aload_n 0, 1) := F_Maps_invert_104.2.2.2.1
theorem d_Maps_invert_108 : decode prog_3_method_9_code 108 = .ok (.iconst 0, 1) := F_Maps_invert_104.2.2.2.2.1
theorem d_Maps_invert_109 : decode prog_3_method_9_code 109 = .ok (.laload, 1) := F_Maps_invert_104.2.2.2.2.2.1
theorem d_Maps_invert_110 : decode prog_3_method_9_code 110 = .ok (.aload_n 0, 1) := F_Maps_invert_104.2.2.2.2.2.2.1
theorem d_Maps_invert_111 : decode prog_3_method_9_code 111 = .ok (.iconst 5, 1) := F_Maps_invert_104.2.2.2.2.2.2.2.1
theorem d_Maps_invert_112 : decode prog_3_method_9_code 112 = .ok (.laload, 1) := F_Maps_invert_104.2.2.2.2.2.2.2.2.1
theorem d_Maps_invert_113 : decode prog_3_method_9_code 113 = .ok (.lmul, 1) := F_Maps_invert_104.2.2.2.2.2.2.2.2.2.1
theorem d_Maps_invert_114 : decode prog_3_method_9_code 114 = .ok (.lsub, 1) := F_Maps_invert_104.2.2.2.2.2.2.2.2.2.2.1
theorem d_Maps_invert_115 : decode prog_3_method_9_code 115 = .ok (.lastore, 1) := F_Maps_invert_104.2.2.2.2.2.2.2.2.2.2.2.1
theorem d_Maps_invert_116 : decode prog_3_method_9_code 116 = .ok (.aload_n 1, 1) := F_Maps_invert_104.2.2.2.2.2.2.2.2.2.2.2.2.1
theorem d_Maps_invert_117 : decode prog_3_method_9_code 117 = .ok (.bipush (6), 2) := F_Maps_invert_104.2.2.2.2.2.2.2.2.2.2.2.2.2.1
theorem d_Maps_invert_119 : decode prog_3_method_9_code 119 = .ok (.aload_n 0, 1) := F_Maps_invert_104.2.2.2.2.2.2.2.2.2.2.2.2.2.2.1
theorem d_Maps_invert_120 : decode prog_3_method_9_code 120 = .ok (.iconst 3, 1) := F_Maps_invert_104.2.2.2.2.2.2.2.2.2.2.2.2.2.2.2.1
theorem d_Maps_invert_121 : decode prog_3_method_9_code 121 = .ok (.laload, 1) := F_Maps_invert_104.2.2.2.2.2.2.2.2.2.2.2.2.2.2.2.2.1
theorem d_Maps_invert_122 : decode prog_3_method_9_code 122 = .ok (.aload_n 0, 1) := F_Maps_invert_104.2.2.2.2.2.2.2.2.2.2.2.2.2.2.2.2.2.1
theorem d_Maps_invert_123 : decode prog_3_method_9_code 123 = .ok (.bipush (7), 2) := F_Maps_invert_104.2.2.2.2.2.2.2.2.2.2.2.2.2.2.2.2.2.2.1
theorem d_Maps_invert_125 : decode prog_3_method_9_code 125 = .ok (.laload, 1) := F_Maps_invert_104.2.2.2.2.2.2.2.2.2.2.2.2.2.2.2.2.2.2.2.1
theorem d_Maps_invert_126 : decode prog_3_method_9_code 126 = .ok (.lmul, 1) := F_Maps_invert_104.2.2.2.2.2.2.2.2.2.2.2.2.2.2.2.2.2.2.2.2.1
theorem d_Maps_invert_127 : decode prog_3_method_9_code 127 = .ok (.aload_n 0, 1) := F_Maps_invert_104.2.2.2.2.2.2.2.2.2.2.2.2.2.2.2.2.2.2.2.2.2.1
theorem d_Maps_invert_128 : decode prog_3_method_9_code 128 = .ok (.iconst 4, 1) := F_Maps_invert_104.2.2.2.2.2.2.2.2.2.2.2.2.2.2.2.2.2.2.2.2.2.2.1
theorem d_Maps_invert_129 : decode prog_3_method_9_code 129 = .ok (.laload, 1) := F_Maps_invert_104.2.2.2.2.2.2.2.2.2.2.2.2.2.2.2.2.2.2.2.2.2.2.2.1
theorem d_Maps_invert_130 : decode prog_3_method_9_code 130 = .ok (.aload_n 0, 1) := F_Maps_invert_104.2.2.2.2.2.2.2.2.2.2.2.2.2.2.2.2.2.2.2.2.2.2.2.2.1
theorem d_Maps_invert_131 : decode prog_3_method_9_code 131 = .ok (.bipush (6), 2) := F_Maps_invert_104.2.2.2.2.2.2.2.2.2.2.2.2.2.2.2.2.2.2.2.2.2.2.2.2.2.1
theorem d_Maps_invert_133 : decode prog_3_method_9_code 133 = .ok (.laload, 1) := F_Maps_invert_104.2.2.2.2.2.2.2.2.2.2.2.2.2.2.2.2.2.2.2.2.2.2.2.2.2.2.1
theorem d_Maps_invert_134 : decode prog_3_method_9_code 134 = .ok (.lmul, 1) := F_Maps_invert_104.2.2.2.2.2.2.2.2.2.2.2.2.2.2.2.2.2.2.2.2.2.2.2.2.2.2.2.1
theorem d_Maps_invert_135 : decode prog_3_method_9_code 135 = .ok (.lsub, 1) := F_Maps_invert_104.2.2.2.2.2.2.2.2.2.2.2.2.2.2.2.2.2.2.2.2.2.2.2.2.2.2.2.2.1
theorem d_Maps_invert_136 : decode prog_3_method_9_code 136 = .ok (.lastore, 1) := F_Maps_invert_104.2.2.2.2.2.2.2.2.2.2.2.2.2.2.2.2.2.2.2.2.2.2.2.2.2.2.2.2.2.1
theorem d_Maps_invert_137 : decode prog_3_method_9_code 137 = .ok (.aload_n 1, 1) := F_Maps_invert_104.2.2.2.2.2.2.2.2.2.2.2.2.2.2.2.2.2.2.2.2.2.2.2.2.2.2.2.2.2.2.1
theorem d_Maps_invert_138 : decode prog_3_method_9_code 138 = .ok (.bipush (7), 2) := F_Maps_invert_104.2.2.2.2.2.2.2.2.2.2.2.2.2.2.2.2.2.2.2.2.2.2.2.2.2.2.2.2.2.2.2.1
theorem F_Maps_invert_140 : Jvm.Free.DS.Facts prog_3_method_9_code 140 [(.aload_n 0, 1), (.iconst 1, 1), (.laload, 1), (.aload_n 0, 1), (.bipush (6), 2), (.laload, 1), (.lmul, 1), (.aload_n 0, 1), (.iconst 0, 1), (.laload, 1), (.aload_n 0, 1), (.bipush (7), 2), (.laload, 1), (.lmul, 1), (.lsub, 1), (.lastore, 1), (.aload_n 1, 1), (.bipush (8), 2), (.aload_n 0, 1), (.iconst 0, 1), (.laload, 1), (.aload_n 0, 1), (.iconst 4, 1), (.laload, 1), (.lmul, 1), (.aload_n 0, 1), (.iconst 1, 1), (.laload, 1), (.aload_n 0, 1), (.iconst 3, 1), (.laload, 1), (.lmul, 1)] := Jvm.Free.DS.facts 140 _ (by decide +kernel) (by decide +kernel)
theorem d_Maps_invert_140 : decode prog_3_method_9_code 140 = .ok (.aload_n 0, 1) := F_Maps_invert_140.1
theorem d_Maps_invert_141 : decode prog_3_method_9_code 141 = .ok (.iconst 1, 1) := F_Maps_invert_140.2.1
theorem d_Maps_invert_142 : decode prog_3_method_9_code 142 = .ok (.laload, 1) := F_Maps_invert_140.2.2.1
theorem d_Maps_invert_143 : decode prog_3_method_9_code 143 = .ok (.aload_n 0, 1) := F_Maps_invert_140.2.2.2.1
theorem d_Maps_invert_144 : decode prog_3_method_9_code 144 = .ok (.bipush (6), 2) := F_Maps_invert_140.2.2.2.2.1
theorem d_Maps_invert_146 : decode prog_3_method_9_code 146 = .ok (.laload, 1) := F_Maps_invert_140.2.2.2.2.2.1
theorem d_Maps_invert_147 : decode prog_3_method_9_code 147 = .ok (.lmul, 1) := F_Maps_invert_140.2.2.2.2.2.2.1
theorem d_Maps_invert_148 : decode prog_3_method_9_code 148 = .ok (.aload_n 0, 1) := F_Maps_invert_140.2.2.2.2.2.2.2.1
theorem d_Maps_invert_149 : decode prog_3_method_9_code 149 = .ok (.iconst 0, 1) := F_Maps_invert_140.2.2.2.2.2.2.2.2.1
theorem d_Maps_invert_150 : decode prog_3_method_9_code 150 = .ok (.laload, 1) := F_Maps_invert_140.2.2.2.2.2.2.2.2.2.1
theorem d_Maps_invert_151 : decode prog_3_method_9_code 151 = .ok (.aload_n 0, 1) := F_Maps_invert_140.2.2.2.2.2.2.2.2.2.2.1
theorem d_Maps_invert_152 : decode prog_3_method_9_code 152 = .ok (.bipush (7), 2) := F_Maps_invert_140.2.2.2.2.2.2.2.2.2.2.2.1
theorem d_Maps_invert_154 : decode prog_3_method_9_code 154 = .ok (.laload, 1) := F_Maps_invert_140.2.2.2.2.2.2.2.2.2.2.2.2.1
theorem d_Maps_invert_155 : decode prog_3_method_9_code 155 = .ok (.lmul, 1) := F_Maps_invert_140.2.2.2.2.2.2.2.2.2.2.2.2.2.1
theorem d_Maps_invert_156 : decode prog_3_method_9_code 156 = .ok (.lsub, 1) := F_Maps_invert_140.2.2.2.2.2.2.2.2.2.2.2.2.2.2.1
theorem d_Maps_invert_157 : decode prog_3_method_9_code 157 = .ok (.lastore, 1) := F_Maps_invert_140.2.2.2.2.2.2.2.2.2.2.2.2.2.2.2.1
theorem d_Maps_invert_158 : decode prog_3_method_9_code 158 = .ok (.aload_n 1, 1) := F_Maps_invert_140.2.2.2.2.2.2.2.2.2.2.2.2.2.2.2.2.1
theorem d_Maps_invert_159 : decode prog_3_method_9_code 159 = .ok (.bipush (8), 2) := F_Maps_invert_140.2.2.2.2.2.2.2.2.2.2.2.2.2.2.2.2.2.1
theorem d_Maps_invert_161 : decode prog_3_method_9_code 161 = .ok (.aload_n 0, 1) := F_Maps_invert_140.2.2.2.2.2.2.2.2.2.2.2.2.2.2.2.2.2.2.1
theorem d_Maps_invert_162 : decode prog_3_method_9_code 162 = .ok (.iconst 0, 1) := F_Maps_invert_140.2.2.2.2.2.2.2.2.2.2.2.2.2.2.2.2.2.2.2.1
theorem d_Maps_invert_163 : decode prog_3_method_9_code 163 = .ok (.laload, 1) := F_Maps_invert_140.2.2.2.2.2.2.2.2.2.2.2.2.2.2.2.2.2.2.2.2.1
theorem d_Maps_invert_164 : decode prog_3_method_9_code 164 = .ok (.aload_n 0, 1) := F_Maps_invert_140.2.2.2.2.2.2.2.2.2.2.2.2.2.2.2.2.2.2.2.2.2.1
theorem d_Maps_invert_165 : decode prog_3_method_9_code 165 = .ok (.iconst 4, 1) := F_Maps_invert_140.2.2.2.2.2.2.2.2.2.2.2.2.2.2.2.2.2.2.2.2.2.2.1
theorem d_Maps_invert_166 : decode prog_3_method_9_code 166 = .ok (.laload, 1) := F_Maps_invert_140.2.2.2.2.2.2.2.2.2.2.2.2.2.2.2.2.2.2.2.2.2.2.2.1
theorem d_Maps_invert_167 : decode prog_3_method_9_code 167 = .ok (.lmul, 1) := F_Maps_invert_140.2.2.2.2.2.2.2.2.2.2.2.2.2.2.2.2.2.2.2.2.2.2.2.2.1
theorem d_Maps_invert_168 : decode prog_3_method_9_code 168 = .ok (.aload_n 0, 1) := F_Maps_invert_140.2.2.2.2.2.2.2.2.2.2.2.2.2.2.2.2.2.2.2.2.2.2.2.2.2.1
theorem d_Maps_invert_169 : decode prog_3_method_9_code 169 = .ok (.iconst 1, 1) := F_Maps_invert_140.2.2.2.2.2.2.2.2.2.2.2.2.2.2.2.2.2.2.2.2.2.2.2.2.2.2.1
theorem d_Maps_invert_170 : decode prog_3_method_9_code 170 = .ok (.laload, 1) := F_Maps_invert_140.2.2.2.2.2.2.2.2.2.2.2.2.2.2.2.2.2.2.2.2.2.2.2.2.2.2.2.1
theorem d_Maps_invert_171 : decode prog_3_method_9_code 171 = .ok (.aload_n 0, 1) := F_Maps_invert_140.2.2.2.2.2.2.2.2.2.2.2.2.2.2.2.2.2.2.2.2.2.2.2.2.2.2.2.2.1
theorem d_Maps_invert_172 : decode prog_3_method_9_code 172 = .ok (.iconst 3, 1) := F_Maps_invert_140.2.2.2.2.2.2.2.2.2.2.2.2.2.2.2.2.2.2.2.2.2.2.2.2.2.2.2.2.2.1
theorem d_Maps_invert_173 : decode prog_3_method_9_code 173 = .ok (.laload, 1) := F_Maps_invert_140.2.2.2.2.2.2.2.2.2.2.2.2.2.2.2.2.2.2.2.2.2.2.2.2.2.2.2.2.2.2.1
theorem d_Maps_invert_174 : decode prog_3_method_9_code 174 = .ok (.lmul, 1) := F_Maps_invert_140.2.2.2.2.2.2.2.2.2.2.2.2.2.2.2.2.2.2.2.2.2.2.2.2.2.2.2.2.2.2.2.1
theorem F_Maps_invert_175 : Jvm.Free.DS.Facts prog_3_method_9_code 175 [(.lsub, 1), (.lastore, 1), (.aload_n 1, 1), (.invokestatic 17, 3), (.return_, 1)] := Jvm.Free.DS.facts 175 _ (by decide +kernel) (by decide +kernel)
theorem d_Maps_invert_175 : decode prog_3_method_9_code 175 = .ok (.lsub, 1) := F_Maps_invert_175.1
theorem d_Maps_invert_176 : decode prog_3_method_9_code 176 = .ok (.lastore, 1) := F_Maps_invert_175.2.1
theorem d_Maps_invert_177 : decode prog_3_method_9_code 177 = .ok (.aload_n 1, 1) := F_Maps_invert_175.2.2.1
theorem d_Maps_invert_178 : decode prog_3_method_9_code 178 = .ok (.invokestatic 17, 3) := F_Maps_invert_175.2.2.2.1
theorem d_Maps_invert_181 : decode prog_3_method_9_code 181 = .ok (.return_, 1) := F_Maps_invert_175.2.2.2.2.1
theorem F_Rows_reduce_0 : Jvm.Free.DS.Facts prog_9_method_5_code 0 [(.lconst 0, 1), (.lstore_n 1, 1), (.iconst 0, 1), (.istore_n 3, 1), (.iload_n 3, 1), (.aload_n 0, 1), (.arraylength, 1), (.if_icmp .ge (23), 3), (.lload_n 1, 1), (.lconst 1, 1), (.lcmp, 1), (.ifCond .eq (17), 3), (.lload_n 1, 1), (.aload_n 0, 1), (.iload_n 3, 1), (.laload, 1), (.invokestatic 17, 3), (.lstore_n 1, 1), (.iinc 3 (1), 3), (.goto (-23), 3), (.aload_n 0, 1), (.aload_n 0, 1), (.invokestatic 21, 3), (.laload, 1), (.lconst 0, 1), (.lcmp, 1), (.ifCond .ge (6), 3), (.lload_n 1, 1), (.lneg, 1), (.lstore_n 1, 1), (.lload_n 1, 1), (.lconst 0, 1)] := Jvm.Free.DS.facts 0 _ (by decide +kernel) (by decide +kernel)
theorem d_Rows_reduce_0 : decode prog_9_method_5_code 0 = .ok (.lconst 0, 1) := F_Rows_reduce_0.1
theorem d_Rows_reduce_1 : decode prog_9_method_5_code 1 = .ok (.lstore_n 1, 1) := F_Rows_reduce_0.2.1
theorem d_Rows_reduce_2 : decode prog_9_method_5_code 2 = .ok (.iconst 0, 1) := F_Rows_reduce_0.2.2.1
theorem d_Rows_reduce_3 : decode prog_9_method_5_code 3 = .ok (.istore_n 3, 1) := F_Rows_reduce_0.2.2.2.1
theorem d_Rows_reduce_4 : decode prog_9_method_5_code 4 = .ok (.iload_n 3, 1) := F_Rows_reduce_0.2.2.2.2.1
theorem d_Rows_reduce_5 : decode prog_9_method_5_code 5 = .ok (.aload_n 0, 1) := F_Rows_reduce_0.2.2.2.2.2.1
theorem d_Rows_reduce_6 : decode prog_9_method_5_code 6 = .ok (.arraylength, 1) := F_Rows_reduce_0.2.2.2.2.2.2.1
theorem d_Rows_reduce_7 : decode prog_9_method_5_code 7 = .ok (.if_icmp .ge (23), 3) := F_Rows_reduce_0.2.2.2.2.2.2.2.1
theorem d_Rows_reduce_10 : decode prog_9_method_5_code 10 = .ok (.lload_n 1, 1) := F_Rows_reduce_0.2.2.2.2.2.2.2.2.1
theorem d_Rows_reduce_11 : decode prog_9_method_5_code 11 = .ok (.lconst 1, 1) := F_Rows_reduce_0.2.2.2.2.2.2.2.2.2.1
theorem d_Rows_reduce_12 : decode prog_9_method_5_code 12 = .ok (.lcmp, 1) := F_Rows_reduce_0.2.2.2.2.2.2.2.2.2.2.1
theorem d_Rows_reduce_13 : decode prog_9_method_5_code 13 = .ok (.ifCond .eq (17), 3) := F_Rows_reduce_0.2.2.2.2.2.2.2.2.2.2.2.1
theorem d_Rows_reduce_16 : decode prog_9_method_5_code 16 = .ok (.lload_n 1, 1) := F_Rows_reduce_0.2.2.2.2.2.2.2.2.2.2.2.2.1
theorem d_Rows_reduce_17 : decode prog_9_method_5_code 17 = .ok (.aload_n 0, 1) := F_Rows_reduce_0.2.2.2.2.2.2.2.2.2.2.2.2.2.1
theorem d_Rows_reduce_18 : decode prog_9_method_5_code 18 = .ok (.iload_n 3, 1) := F_Rows_reduce_0.2.2.2.2.2.2.2.2.2.2.2.2.2.2.1
theorem d_Rows_reduce_19 : decode prog_9_method_5_code 19 = .ok (.laload, 1) := F_Rows_reduce_0.2.2.2.2.2.2.2.2.2.2.2.2.2.2.2.1
theorem d_Rows_reduce_20 : decode prog_9_method_5_code 20 = .ok (.invokestatic 17, 3) := F_Rows_reduce_0.2.2.2.2.2.2.2.2.2.2.2.2.2.2.2.2.1
theorem d_Rows_reduce_23 : decode prog_9_method_5_code 23 = .ok (.lstore_n 1, 1) := F_Rows_reduce_0.2.2.2.2.2.2.2.2.2.2.2.2.2.2.2.2.2.1
theorem d_Rows_reduce_24 : decode prog_9_method_5_code 24 = .ok (.iinc 3 (1), 3) := F_Rows_reduce_0.2.2.2.2.2.2.2.2.2.2.2.2.2.2.2.2.2.2.1
theorem d_Rows_reduce_27 : decode prog_9_method_5_code 27 = .ok (.goto (-23), 3) := F_Rows_reduce_0.2.2.2.2.2.2.2.2.2.2.2.2.2.2.2.2.2.2.2.1
theorem d_Rows_reduce_30 : decode prog_9_method_5_code 30 = .ok (.aload_n 0, 1) := F_Rows_reduce_0.2.2.2.2.2.2.2.2.2.2.2.2.2.2.2.2.2.2.2.2.1
theorem d_Rows_reduce_31 : decode prog_9_method_5_code 31 = .ok (.aload_n 0, 1) := F_Rows_reduce_0.2.2.2.2.2.2.2.2.2.2.2.2.2.2.2.2.2.2.2.2.2.1
theorem d_Rows_reduce_32 : decode prog_9_method_5_code 32 = .ok (.invokestatic 21, 3) := F_Rows_reduce_0.2.2.2.2.2.2.2.2.2.2.2.2.2.2.2.2.2.2.2.2.2.2.1
theorem d_Rows_reduce_35 : decode prog_9_method_5_code 35 = .ok (.laload, 1) := F_Rows_reduce_0.2.2.2.2.2.2.2.2.2.2.2.2.2.2.2.2.2.2.2.2.2.2.2.1
theorem d_Rows_reduce_36 : decode prog_9_method_5_code 36 = .ok (.lconst 0, 1) := F_Rows_reduce_0.2.2.2.2.2.2.2.2.2.2.2.2.2.2.2.2.2.2.2.2.2.2.2.2.1
theorem d_Rows_reduce_37 : decode prog_9_method_5_code 37 = .ok (.lcmp, 1) := F_Rows_reduce_0.2.2.2.2.2.2.2.2.2.2.2.2.2.2.2.2.2.2.2.2.2.2.2.2.2.1
theorem d_Rows_reduce_38 : decode prog_9_method_5_code 38 = .ok (.ifCond .ge (6), 3) := F_Rows_reduce_0.2.2.2.2.2.2.2.2.2.2.2.2.2.2.2.2.2.2.2.2.2.2.2.2.2.2.1
theorem d_Rows_reduce_41 : decode prog_9_method_5_code 41 = .ok (.lload_n 1, 1) := F_Rows_reduce_0.2.2.2.2.2.2.2.2.2.2.2.2.2.2.2.2.2.2.2.2.2.2.2.2.2.2.2.1
theorem d_Rows_reduce_42 : decode prog_9_method_5_code 42 = .ok (.lneg, 1) := F_Rows_reduce_0.2.2.2.2.2.2.2.2.2.2.2.2.2.2.2.2.2.2.2.2.2.2.2.2.2.2.2.2.1
theorem d_Rows_reduce_43 : decode prog_9_method_5_code 43 = .ok (.lstore_n 1, 1) := F_Rows_reduce_0.2.2.2.2.2.2.2.2.2.2.2.2.2.2.2.2.2.2.2.2.2.2.2.2.2.2.2.2.2.1
theorem d_Rows_reduce_44 : decode prog_9_method_5_code 44 = .ok (.lload_n 1, 1) := F_Rows_reduce_0.2.2.2.2.2.2.2.2.2.2.2.2.2.2.2.2.2.2.2.2.2.2.2.2.2.2.2.2.2.2.1
theorem d_Rows_reduce_45 : decode prog_9_method_5_code 45 = .ok (.lconst 0, 1) := F_Rows_reduce_0.2.2.2.2.2.2.2.2.2.2.2.2.2.2.2.2.2.2.2.2.2.2.2.2.2.2.2.2.2.2.2.1
theorem F_Rows_reduce_46 : Jvm.Free.DS.Facts prog_9_method_5_code 46 [(.lcmp, 1), (.ifCond .eq (9), 3), (.lload_n 1, 1), (.lconst 1, 1), (.lcmp, 1), (.ifCond .ne (4), 3), (.return_, 1), (.iconst 0, 1), (.istore_n 3, 1), (.iload_n 3, 1), (.aload_n 0, 1), (.arraylength, 1), (.if_icmp .ge (16), 3), (.aload_n 0, 1), (.iload_n 3, 1), (.dup2, 1), (.laload, 1), (.lload_n 1, 1), (.ldiv, 1), (.lastore, 1), (.iinc 3 (1), 3), (.goto (-16), 3), (.return_, 1)] := Jvm.Free.DS.facts 46 _ (by decide +kernel) (by decide +kernel)
theorem d_Rows_reduce_46 : decode prog_9_method_5_code 46 = .ok (.lcmp, 1) := F_Rows_reduce_46.1
theorem d_Rows_reduce_47 : decode prog_9_method_5_code 47 = .ok (.ifCond .eq (9), 3) := F_Rows_reduce_46.2.1
theorem d_Rows_reduce_50 : decode prog_9_method_5_code 50 = .ok (.lload_n 1, 1) := F_Rows_reduce_46.2.2.1
theorem d_Rows_reduce_51 : decode prog_9_method_5_code 51 = .ok (.lconst 1, 1) := F_Rows_reduce_46.2.2.2.1
theorem d_Rows_reduce_52 : decode prog_9_method_5_code 52 = .ok (.lcmp, 1) := F_Rows_reduce_46.2.2.2.2.1
theorem d_Rows_reduce_53 : decode prog_9_method_5_code 53 = .ok (.ifCond .ne (4), 3) := F_Rows_reduce_46.2.2.2.2.2.1
theorem d_Rows_reduce_56 : decode prog_9_method_5_code 56 = .ok (.return_, 1) := F_Rows_reduce_46.2.2.2.2.2.2.1
theorem d_Rows_reduce_57 : decode prog_9_method_5_code 57 = .ok (.iconst 0, 1) := F_Rows_reduce_46.2.2.2.2.2.2.2.1
theorem d_Rows_reduce_58 : decode prog_9_method_5_code 58 = .ok (.istore_n 3, 1) := F_Rows_reduce_46.2.2.2.2.2.2.2.2.1
theorem d_Rows_reduce_59 : decode prog_9_method_5_code 59 = .ok (.iload_n 3, 1) := F_Rows_reduce_46.2.2.2.2.2.2.2.2.2.1
theorem d_Rows_reduce_60 : decode prog_9_method_5_code 60 = .ok (.aload_n 0, 1) := F_Rows_reduce_46.2.2.2.2.2.2.2.2.2.2.1
theorem d_Rows_reduce_61 : decode prog_9_method_5_code 61 = .ok (.arraylength, 1) := F_Rows_reduce_46.2.2.2.2.2.2.2.2.2.2.2.1
theorem d_Rows_reduce_62 : decode prog_9_method_5_code 62 = .ok (.if_icmp .ge (16), 3) := F_Rows_reduce_46.2.2.2.2.2.2.2.2.2.2.2.2.1
theorem d_Rows_reduce_65 : decode prog_9_method_5_code 65 = .ok (.aload_n 0, 1) := F_Rows_reduce_46.2.2.2.2.2.2.2.2.2.2.2.2.2.1
theorem d_Rows_reduce_66 : decode prog_9_method_5_code 66 = .ok (.iload_n 3, 1) := F_Rows_reduce_46.2.2.2.2.2.2.2.2.2.2.2.2.2.2.1
theorem d_Rows_reduce_67 : decode prog_9_method_5_code 67 = .ok (.dup2, 1) := F_Rows_reduce_46.2.2.2.2.2.2.2.2.2.2.2.2.2.2.2.1
theorem d_Rows_reduce_68 : decode prog_9_method_5_code 68 = .ok (.laload, 1) := F_Rows_reduce_46.2.2.2.2.2.2.2.2.2.2.2.2.2.2.2.2.1
theorem d_Rows_reduce_69 : decode prog_9_method_5_code 69 = .ok (.lload_n 1, 1) := F_Rows_reduce_46.2.2.2.2.2.2.2.2.2.2.2.2.2.2.2.2.2.1
theorem d_Rows_reduce_70 : decode prog_9_method_5_code 70 = .ok (.ldiv, 1) := F_Rows_reduce_46.2.2.2.2.2.2.2.2.2.2.2.2.2.2.2.2.2.2.1
theorem d_Rows_reduce_71 : decode prog_9_method_5_code 71 = .ok (.lastore, 1) := F_Rows_reduce_46.2.2.2.2.2.2.2.2.2.2.2.2.2.2.2.2.2.2.2.1
theorem d_Rows_reduce_72 : decode prog_9_method_5_code 72 = .ok (.iinc 3 (1), 3) := F_Rows_reduce_46.2.2.2.2.2.2.2.2.2.2.2.2.2.2.2.2.2.2.2.2.1
theorem d_Rows_reduce_75 : decode prog_9_method_5_code 75 = .ok (.goto (-16), 3) := F_Rows_reduce_46.2.2.2.2.2.2.2.2.2.2.2.2.2.2.2.2.2.2.2.2.2.1
theorem d_Rows_reduce_78 : decode prog_9_method_5_code 78 = .ok (.return_, 1) := F_Rows_reduce_46.2.2.2.2.2.2.2.2.2.2.2.2.2.2.2.2.2.2.2.2.2.2.1
theorem F_Rows_divisor_0 : Jvm.Free.DS.Facts prog_9_method_2_code 0 [(.lload_n 0, 1), (.invokestatic 9, 3), (.lstore 4, 2), (.lload_n 2, 1), (.invokestatic 9, 3), (.lstore 6, 2), (.iconst 0, 1), (.istore 8, 2), (.iload 8, 2), (.sipush (1000), 3), (.if_icmp .ge (31), 3), (.lload 6, 2), (.lconst 0, 1), (.lcmp, 1), (.ifCond .eq (24), 3), (.lload 4, 2), (.lload 6, 2), (.lrem, 1), (.lstore 9, 2), (.lload 6, 2), (.lstore 4, 2), (.lload 9, 2), (.lstore 6, 2), (.iinc 8 (1), 3), (.goto (-33), 3), (.lload 4, 2), (.lreturn, 1)] := Jvm.Free.DS.facts 0 _ (by decide +kernel) (by decide +kernel)
theorem d_Rows_divisor_0 : decode prog_9_method_2_code 0 = .ok (.lload_n 0, 1) := F_Rows_divisor_0.1
theorem d_Rows_divisor_1 : decode prog_9_method_2_code 1 = .ok (.invokestatic 9, 3) := F_Rows_divisor_0.2.1
theorem d_Rows_divisor_4 : decode prog_9_method_2_code 4 = .ok (.lstore 4, 2) := F_Rows_divisor_0.2.2.1
theorem d_Rows_divisor_6 : decode prog_9_method_2_code 6 = .ok (.lload_n 2, 1) := F_Rows_divisor_0.2.2.2.1
theorem d_Rows_divisor_7 : decode prog_9_method_2_code 7 = .ok (.invokestatic 9, 3) := F_Rows_divisor_0.2.2.2.2.1
theorem d_Rows_divisor_10 : decode prog_9_method_2_code 10 = .ok (.lstore 6, 2) := F_Rows_divisor_0.2.2.2.2.2.1
theorem d_Rows_divisor_12 : decode prog_9_method_2_code 12 = .ok (.iconst 0, 1) := F_Rows_divisor_0.2.2.2.2.2.2.1
theorem d_Rows_divisor_13 : decode prog_9_method_2_code 13 = .ok (.istore 8, 2) := F_Rows_divisor_0.2.2.2.2.2.2.2.1
theorem d_Rows_divisor_15 : decode prog_9_method_2_code 15 = .ok (.iload 8, 2) := F_Rows_divisor_0.2.2.2.2.2.2.2.2.1
theorem d_Rows_divisor_17 : decode prog_9_method_2_code 17 = .ok (.sipush (1000), 3) := F_Rows_divisor_0.2.2.2.2.2.2.2.2.2.1
theorem d_Rows_divisor_20 : decode prog_9_method_2_code 20 = .ok (.if_icmp .ge (31), 3) := F_Rows_divisor_0.2.2.2.2.2.2.2.2.2.2.1
theorem d_Rows_divisor_23 : decode prog_9_method_2_code 23 = .ok (.lload 6, 2) := F_Rows_divisor_0.2.2.2.2.2.2.2.2.2.2.2.1
theorem d_Rows_divisor_25 : decode prog_9_method_2_code 25 = .ok (.lconst 0, 1) := F_Rows_divisor_0.2.2.2.2.2.2.2.2.2.2.2.2.1
theorem d_Rows_divisor_26 : decode prog_9_method_2_code 26 = .ok (.lcmp, 1) := F_Rows_divisor_0.2.2.2.2.2.2.2.2.2.2.2.2.2.1
theorem d_Rows_divisor_27 : decode prog_9_method_2_code 27 = .ok (.ifCond .eq (24), 3) := F_Rows_divisor_0.2.2.2.2.2.2.2.2.2.2.2.2.2.2.1
theorem d_Rows_divisor_30 : decode prog_9_method_2_code 30 = .ok (.lload 4, 2) := F_Rows_divisor_0.2.2.2.2.2.2.2.2.2.2.2.2.2.2.2.1
theorem d_Rows_divisor_32 : decode prog_9_method_2_code 32 = .ok (.lload 6, 2) := F_Rows_divisor_0.2.2.2.2.2.2.2.2.2.2.2.2.2.2.2.2.1
theorem d_Rows_divisor_34 : decode prog_9_method_2_code 34 = .ok (.lrem, 1) := F_Rows_divisor_0.2.2.2.2.2.2.2.2.2.2.2.2.2.2.2.2.2.1
theorem d_Rows_divisor_35 : decode prog_9_method_2_code 35 = .ok (.lstore 9, 2) := F_Rows_divisor_0.2.2.2.2.2.2.2.2.2.2.2.2.2.2.2.2.2.2.1
theorem d_Rows_divisor_37 : decode prog_9_method_2_code 37 = .ok (.lload 6, 2) := F_Rows_divisor_0.2.2.2.2.2.2.2.2.2.2.2.2.2.2.2.2.2.2.2.1
theorem d_Rows_divisor_39 : decode prog_9_method_2_code 39 = .ok (.lstore 4, 2) := F_Rows_divisor_0.2.2.2.2.2.2.2.2.2.2.2.2.2.2.2.2.2.2.2.2.1
theorem d_Rows_divisor_41 : decode prog_9_method_2_code 41 = .ok (.lload 9, 2) := F_Rows_divisor_0.2.2.2.2.2.2.2.2.2.2.2.2.2.2.2.2.2.2.2.2.2.1
theorem d_Rows_divisor_43 : decode prog_9_method_2_code 43 = .ok (.lstore 6, 2) := F_Rows_divisor_0.2.2.2.2.2.2.2.2.2.2.2.2.2.2.2.2.2.2.2.2.2.2.1
theorem d_Rows_divisor_45 : decode prog_9_method_2_code 45 = .ok (.iinc 8 (1), 3) := F_Rows_divisor_0.2.2.2.2.2.2.2.2.2.2.2.2.2.2.2.2.2.2.2.2.2.2.2.1
theorem d_Rows_divisor_48 : decode prog_9_method_2_code 48 = .ok (.goto (-33), 3) := F_Rows_divisor_0.2.2.2.2.2.2.2.2.2.2.2.2.2.2.2.2.2.2.2.2.2.2.2.2.1
theorem d_Rows_divisor_51 : decode prog_9_method_2_code 51 = .ok (.lload 4, 2) := F_Rows_divisor_0.2.2.2.2.2.2.2.2.2.2.2.2.2.2.2.2.2.2.2.2.2.2.2.2.2.1
theorem d_Rows_divisor_53 : decode prog_9_method_2_code 53 = .ok (.lreturn, 1) := F_Rows_divisor_0.2.2.2.2.2.2.2.2.2.2.2.2.2.2.2.2.2.2.2.2.2.2.2.2.2.2.1
theorem F_Rows_lastPlace_0 : Jvm.Free.DS.Facts prog_9_method_4_code 0 [(.aload_n 0, 1), (.arraylength, 1), (.iconst 1, 1), (.isub, 1), (.istore_n 1, 1), (.iload_n 1, 1), (.ifCond .le (19), 3), (.aload_n 0, 1), (.iload_n 1, 1), (.laload, 1), (.lconst 0, 1), (.lcmp, 1), (.ifCond .eq (5), 3), (.iload_n 1, 1), (.ireturn, 1), (.iinc 1 (-1), 3), (.goto (-17), 3), (.iconst 0, 1), (.ireturn, 1)] := Jvm.Free.DS.facts 0 _ (by decide +kernel) (by decide +kernel)
theorem d_Rows_lastPlace_0 : decode prog_9_method_4_code 0 = .ok (.aload_n 0, 1) := F_Rows_lastPlace_0.1
theorem d_Rows_lastPlace_1 : decode prog_9_method_4_code 1 = .ok (.arraylength, 1) := F_Rows_lastPlace_0.2.1
theorem d_Rows_lastPlace_2 : decode prog_9_method_4_code 2 = .ok (.iconst 1, 1) := F_Rows_lastPlace_0.2.2.1
theorem d_Rows_lastPlace_3 : decode prog_9_method_4_code 3 = .ok (.isub, 1) := F_Rows_lastPlace_0.2.2.2.1
theorem d_Rows_lastPlace_4 : decode prog_9_method_4_code 4 = .ok (.istore_n 1, 1) := F_Rows_lastPlace_0.2.2.2.2.1
theorem d_Rows_lastPlace_5 : decode prog_9_method_4_code 5 = .ok (.iload_n 1, 1) := F_Rows_lastPlace_0.2.2.2.2.2.1
theorem d_Rows_lastPlace_6 : decode prog_9_method_4_code 6 = .ok (.ifCond .le (19), 3) := F_Rows_lastPlace_0.2.2.2.2.2.2.1
theorem d_Rows_lastPlace_9 : decode prog_9_method_4_code 9 = .ok (.aload_n 0, 1) := F_Rows_lastPlace_0.2.2.2.2.2.2.2.1
theorem d_Rows_lastPlace_10 : decode prog_9_method_4_code 10 = .ok (.iload_n 1, 1) := F_Rows_lastPlace_0.2.2.2.2.2.2.2.2.1
theorem d_Rows_lastPlace_11 : decode prog_9_method_4_code 11 = .ok (.laload, 1) := F_Rows_lastPlace_0.2.2.2.2.2.2.2.2.2.1
theorem d_Rows_lastPlace_12 : decode prog_9_method_4_code 12 = .ok (.lconst 0, 1) := F_Rows_lastPlace_0.2.2.2.2.2.2.2.2.2.2.1
theorem d_Rows_lastPlace_13 : decode prog_9_method_4_code 13 = .ok (.lcmp, 1) := F_Rows_lastPlace_0.2.2.2.2.2.2.2.2.2.2.2.1
theorem d_Rows_lastPlace_14 : decode prog_9_method_4_code 14 = .ok (.ifCond .eq (5), 3) := F_Rows_lastPlace_0.2.2.2.2.2.2.2.2.2.2.2.2.1
theorem d_Rows_lastPlace_17 : decode prog_9_method_4_code 17 = .ok (.iload_n 1, 1) := F_Rows_lastPlace_0.2.2.2.2.2.2.2.2.2.2.2.2.2.1
theorem d_Rows_lastPlace_18 : decode prog_9_method_4_code 18 = .ok (.ireturn, 1) := F_Rows_lastPlace_0.2.2.2.2.2.2.2.2.2.2.2.2.2.2.1
theorem d_Rows_lastPlace_19 : decode prog_9_method_4_code 19 = .ok (.iinc 1 (-1), 3) := F_Rows_lastPlace_0.2.2.2.2.2.2.2.2.2.2.2.2.2.2.2.1
theorem d_Rows_lastPlace_22 : decode prog_9_method_4_code 22 = .ok (.goto (-17), 3) := F_Rows_lastPlace_0.2.2.2.2.2.2.2.2.2.2.2.2.2.2.2.2.1
theorem d_Rows_lastPlace_25 : decode prog_9_method_4_code 25 = .ok (.iconst 0, 1) := F_Rows_lastPlace_0.2.2.2.2.2.2.2.2.2.2.2.2.2.2.2.2.2.1
theorem d_Rows_lastPlace_26 : decode prog_9_method_4_code 26 = .ok (.ireturn, 1) := F_Rows_lastPlace_0.2.2.2.2.2.2.2.2.2.2.2.2.2.2.2.2.2.2.1
theorem F_Maps_multiply_0 : Jvm.Free.DS.Facts prog_3_method_8_code 0 [(.aload_n 0, 1), (.aload_n 1, 1), (.aload_n 2, 1), (.invokestatic 31, 3), (.aload_n 2, 1), (.invokestatic 17, 3), (.return_, 1)] := Jvm.Free.DS.facts 0 _ (by decide +kernel) (by decide +kernel)
theorem d_Maps_multiply_0 : decode prog_3_method_8_code 0 = .ok (.aload_n 0, 1) := F_Maps_multiply_0.1
theorem d_Maps_multiply_1 : decode prog_3_method_8_code 1 = .ok (.aload_n 1, 1) := F_Maps_multiply_0.2.1
theorem d_Maps_multiply_2 : decode prog_3_method_8_code 2 = .ok (.aload_n 2, 1) := F_Maps_multiply_0.2.2.1
theorem d_Maps_multiply_3 : decode prog_3_method_8_code 3 = .ok (.invokestatic 31, 3) := F_Maps_multiply_0.2.2.2.1
theorem d_Maps_multiply_6 : decode prog_3_method_8_code 6 = .ok (.aload_n 2, 1) := F_Maps_multiply_0.2.2.2.2.1
theorem d_Maps_multiply_7 : decode prog_3_method_8_code 7 = .ok (.invokestatic 17, 3) := F_Maps_multiply_0.2.2.2.2.2.1
theorem d_Maps_multiply_10 : decode prog_3_method_8_code 10 = .ok (.return_, 1) := F_Maps_multiply_0.2.2.2.2.2.2.1
theorem F_Maps_multiplyRaw_0 : Jvm.Free.DS.Facts prog_3_method_7_code 0 [(.iconst 0, 1), (.istore_n 3, 1), (.iload_n 3, 1), (.bipush (9), 2), (.if_icmp .ge (65), 3), (.iconst 0, 1), (.istore 4, 2), (.iload 4, 2), (.iconst 3, 1), (.if_icmp .ge (50), 3), (.aload_n 2, 1), (.iload_n 3, 1), (.iload 4, 2), (.iadd, 1), (.aload_n 0, 1), (.iload_n 3, 1), (.laload, 1), (.aload_n 1, 1), (.iload 4, 2), (.laload, 1), (.lmul, 1), (.aload_n 0, 1), (.iload_n 3, 1), (.iconst 1, 1), (.iadd, 1), (.laload, 1), (.aload_n 1, 1), (.iconst 3, 1), (.iload 4, 2), (.iadd, 1), (.laload, 1), (.lmul, 1)] := Jvm.Free.DS.facts 0 _ (by decide +kernel) (by decide +kernel)
theorem d_Maps_multiplyRaw_0 : decode prog_3_method_7_code 0 = .ok (.iconst 0, 1) := F_Maps_multiplyRaw_0.1
theorem d_Maps_multiplyRaw_1 : decode prog_3_method_7_code 1 = .ok (.istore_n 3, 1) := F_Maps_multiplyRaw_0.2.1
theorem d_Maps_multiplyRaw_2 : decode prog_3_method_7_code 2 = .ok (.iload_n 3, 1) := F_Maps_multiplyRaw_0.2.2.1
theorem d_Maps_multiplyRaw_3 : decode prog_3_method_7_code 3 = .ok (.bipush (9), 2) := F_Maps_multiplyRaw_0.2.2.2.1
theorem d_Maps_multiplyRaw_5 : decode prog_3_method_7_code 5 = .ok (.if_icmp .ge (65), 3) := F_Maps_multiplyRaw_0.2.2.2.2.1
theorem d_Maps_multiplyRaw_8 : decode prog_3_method_7_code 8 = .ok (.iconst 0, 1) := F_Maps_multiplyRaw_0.2.2.2.2.2.1
theorem d_Maps_multiplyRaw_9 : decode prog_3_method_7_code 9 = .ok (.istore 4, 2) := F_Maps_multiplyRaw_0.2.2.2.2.2.2.1
theorem d_Maps_multiplyRaw_11 : decode prog_3_method_7_code 11 = .ok (.iload 4, 2) := F_Maps_multiplyRaw_0.2.2.2.2.2.2.2.1
theorem d_Maps_multiplyRaw_13 : decode prog_3_method_7_code 13 = .ok (.iconst 3, 1) := F_Maps_multiplyRaw_0.2.2.2.2.2.2.2.2.1
theorem d_Maps_multiplyRaw_14 : decode prog_3_method_7_code 14 = .ok (.if_icmp .ge (50), 3) := F_Maps_multiplyRaw_0.2.2.2.2.2.2.2.2.2.1
theorem d_Maps_multiplyRaw_17 : decode prog_3_method_7_code 17 = .ok (.aload_n 2, 1) := F_Maps_multiplyRaw_0.2.2.2.2.2.2.2.2.2.2.1
theorem d_Maps_multiplyRaw_18 : decode prog_3_method_7_code 18 = .ok (.iload_n 3, 1) := F_Maps_multiplyRaw_0.2.2.2.2.2.2.2.2.2.2.2.1
theorem d_Maps_multiplyRaw_19 : decode prog_3_method_7_code 19 = .ok (.iload 4, 2) := F_Maps_multiplyRaw_0.2.2.2.2.2.2.2.2.2.2.2.2.1
theorem d_Maps_multiplyRaw_21 : decode prog_3_method_7_code 21 = .ok (.iadd, 1) := F_Maps_multiplyRaw_0.2.2.2.2.2.2.2.2.2.2.2.2.2.1
theorem d_Maps_multiplyRaw_22 : decode prog_3_method_7_code 22 = .ok (.aload_n 0, 1) := F_Maps_multiplyRaw_0.2.2.2.2.2.2.2.2.2.2.2.2.2.2.1
theorem d_Maps_multiplyRaw_23 : decode prog_3_method_7_code 23 = .ok (.iload_n 3, 1) := F_Maps_multiplyRaw_0.2.2.2.2.2.2.2.2.2.2.2.2.2.2.2.1
theorem d_Maps_multiplyRaw_24 : decode prog_3_method_7_code 24 = .ok (.laload, 1) := F_Maps_multiplyRaw_0.2.2.2.2.2.2.2.2.2.2.2.2.2.2.2.2.1
theorem d_Maps_multiplyRaw_25 : decode prog_3_method_7_code 25 = .ok (.aload_n 1, 1) := F_Maps_multiplyRaw_0.2.2.2.2.2.2.2.2.2.2.2.2.2.2.2.2.2.1
theorem d_Maps_multiplyRaw_26 : decode prog_3_method_7_code 26 = .ok (.iload 4, 2) := F_Maps_multiplyRaw_0.2.2.2.2.2.2.2.2.2.2.2.2.2.2.2.2.2.2.1
theorem d_Maps_multiplyRaw_28 : decode prog_3_method_7_code 28 = .ok (.laload, 1) := F_Maps_multiplyRaw_0.2.2.2.2.2.2.2.2.2.2.2.2.2.2.2.2.2.2.2.1
theorem d_Maps_multiplyRaw_29 : decode prog_3_method_7_code 29 = .ok (.lmul, 1) := F_Maps_multiplyRaw_0.2.2.2.2.2.2.2.2.2.2.2.2.2.2.2.2.2.2.2.2.1
theorem d_Maps_multiplyRaw_30 : decode prog_3_method_7_code 30 = .ok (.aload_n 0, 1) := F_Maps_multiplyRaw_0.2.2.2.2.2.2.2.2.2.2.2.2.2.2.2.2.2.2.2.2.2.1
theorem d_Maps_multiplyRaw_31 : decode prog_3_method_7_code 31 = .ok (.iload_n 3, 1) := F_Maps_multiplyRaw_0.2.2.2.2.2.2.2.2.2.2.2.2.2.2.2.2.2.2.2.2.2.2.1
theorem d_Maps_multiplyRaw_32 : decode prog_3_method_7_code 32 = .ok (.iconst 1, 1) := F_Maps_multiplyRaw_0.2.2.2.2.2.2.2.2.2.2.2.2.2.2.2.2.2.2.2.2.2.2.2.1
theorem d_Maps_multiplyRaw_33 : decode prog_3_method_7_code 33 = .ok (.iadd, 1) := F_Maps_multiplyRaw_0.2.2.2.2.2.2.2.2.2.2.2.2.2.2.2.2.2.2.2.2.2.2.2.2.1
theorem d_Maps_multiplyRaw_34 : decode prog_3_method_7_code 34 = .ok (.laload, 1) := F_Maps_multiplyRaw_0.2.2.2.2.2.2.2.2.2.2.2.2.2.2.2.2.2.2.2.2.2.2.2.2.2.1
theorem d_Maps_multiplyRaw_35 : decode prog_3_method_7_code 35 = .ok (.aload_n 1, 1) := F_Maps_multiplyRaw_0.2.2.2.2.2.2.2.2.2.2.2.2.2.2.2.2.2.2.2.2.2.2.2.2.2.2.1
theorem d_Maps_multiplyRaw_36 : decode prog_3_method_7_code 36 = .ok (.iconst 3, 1) := F_Maps_multiplyRaw_0.2.2.2.2.2.2.2.2.2.2.2.2.2.2.2.2.2.2.2.2.2.2.2.2.2.2.2.1
theorem d_Maps_multiplyRaw_37 : decode prog_3_method_7_code 37 = .ok (.iload 4, 2) := F_Maps_multiplyRaw_0.2.2.2.2.2.2.2.2.2.2.2.2.2.2.2.2.2.2.2.2.2.2.2.2.2.2.2.2.1
theorem d_Maps_multiplyRaw_39 : decode prog_3_method_7_code 39 = .ok (.iadd, 1) := F_Maps_multiplyRaw_0.2.2.2.2.2.2.2.2.2.2.2.2.2.2.2.2.2.2.2.2.2.2.2.2.2.2.2.2.2.1
theorem d_Maps_multiplyRaw_40 : decode prog_3_method_7_code 40 = .ok (.laload, 1) := F_Maps_multiplyRaw_0.2.2.2.2.2.2.2.2.2.2.2.2.2.2.2.2.2.2.2.2.2.2.2.2.2.2.2.2.2.2.1
theorem d_Maps_multiplyRaw_41 : decode prog_3_method_7_code 41 = .ok (.lmul, 1) := F_Maps_multiplyRaw_0.2.2.2.2.2.2.2.2.2.2.2.2.2.2.2.2.2.2.2.2.2.2.2.2.2.2.2.2.2.2.2.1
theorem F_Maps_multiplyRaw_42 : Jvm.Free.DS.Facts prog_3_method_7_code 42 [(.ladd, 1), (.aload_n 0, 1), (.iload_n 3, 1), (.iconst 2, 1), (.iadd, 1), (.laload, 1), (.aload_n 1, 1), (.bipush (6), 2), (.iload 4, 2), (.iadd, 1), (.laload, 1), (.lmul, 1), (.ladd, 1), (.lastore, 1), (.iinc 4 (1), 3), (.goto (-50), 3), (.iinc 3 (3), 3), (.goto (-65), 3), (.return_, 1)] := Jvm.Free.DS.facts 42 _ (by decide +kernel) (by decide +kernel)
theorem d_Maps_multiplyRaw_42 : decode prog_3_method_7_code 42 = .ok (.ladd, 1) := F_Maps_multiplyRaw_42.1
theorem d_Maps_multiplyRaw_43 : decode prog_3_method_7_code 43 = .ok (.aload_n 0, 1) := F_Maps_multiplyRaw_42.2.1
theorem d_Maps_multiplyRaw_44 : decode prog_3_method_7_code 44 = .ok (.iload_n 3, 1) := F_Maps_multiplyRaw_42.2.2.1
theorem d_Maps_multiplyRaw_45 : decode prog_3_method_7_code 45 = .ok (.iconst 2, 1) := F_Maps_multiplyRaw_42.2.2.2.1
theorem d_Maps_multiplyRaw_46 : decode prog_3_method_7_code 46 = .ok (.iadd, 1) := F_Maps_multiplyRaw_42.2.2.2.2.1
theorem d_Maps_multiplyRaw_47 : decode prog_3_method_7_code 47 = .ok (.laload, 1) := F_Maps_multiplyRaw_42.2.2.2.2.2.1
theorem d_Maps_multiplyRaw_48 : decode prog_3_method_7_code 48 = .ok (.aload_n 1, 1) := F_Maps_multiplyRaw_42.2.2.2.2.2.2.1
theorem d_Maps_multiplyRaw_49 : decode prog_3_method_7_code 49 = .ok (.bipush (6), 2) := F_Maps_multiplyRaw_42.2.2.2.2.2.2.2.1
theorem d_Maps_multiplyRaw_51 : decode prog_3_method_7_code 51 = .ok (.iload 4, 2) := F_Maps_multiplyRaw_42.2.2.2.2.2.2.2.2.1
theorem d_Maps_multiplyRaw_53 : decode prog_3_method_7_code 53 = .ok (.iadd, 1) := F_Maps_multiplyRaw_42.2.2.2.2.2.2.2.2.2.1
theorem d_Maps_multiplyRaw_54 : decode prog_3_method_7_code 54 = .ok (.laload, 1) := F_Maps_multiplyRaw_42.2.2.2.2.2.2.2.2.2.2.1
theorem d_Maps_multiplyRaw_55 : decode prog_3_method_7_code 55 = .ok (.lmul, 1) := F_Maps_multiplyRaw_42.2.2.2.2.2.2.2.2.2.2.2.1
theorem d_Maps_multiplyRaw_56 : decode prog_3_method_7_code 56 = .ok (.ladd, 1) := F_Maps_multiplyRaw_42.2.2.2.2.2.2.2.2.2.2.2.2.1
theorem d_Maps_multiplyRaw_57 : decode prog_3_method_7_code 57 = .ok (.lastore, 1) := F_Maps_multiplyRaw_42.2.2.2.2.2.2.2.2.2.2.2.2.2.1
theorem d_Maps_multiplyRaw_58 : decode prog_3_method_7_code 58 = .ok (.iinc 4 (1), 3) := F_Maps_multiplyRaw_42.2.2.2.2.2.2.2.2.2.2.2.2.2.2.1
theorem d_Maps_multiplyRaw_61 : decode prog_3_method_7_code 61 = .ok (.goto (-50), 3) := F_Maps_multiplyRaw_42.2.2.2.2.2.2.2.2.2.2.2.2.2.2.2.1
theorem d_Maps_multiplyRaw_64 : decode prog_3_method_7_code 64 = .ok (.iinc 3 (3), 3) := F_Maps_multiplyRaw_42.2.2.2.2.2.2.2.2.2.2.2.2.2.2.2.2.1
theorem d_Maps_multiplyRaw_67 : decode prog_3_method_7_code 67 = .ok (.goto (-65), 3) := F_Maps_multiplyRaw_42.2.2.2.2.2.2.2.2.2.2.2.2.2.2.2.2.2.1
theorem d_Maps_multiplyRaw_70 : decode prog_3_method_7_code 70 = .ok (.return_, 1) := F_Maps_multiplyRaw_42.2.2.2.2.2.2.2.2.2.2.2.2.2.2.2.2.2.2.1
theorem F_Maps_isLarge_0 : Jvm.Free.DS.Facts prog_3_method_2_code 0 [(.aload_n 0, 1), (.invokestatic 9, 3), (.ldc2_w 15, 3), (.lcmp, 1), (.ifCond .le (7), 3), (.iconst 1, 1), (.goto (4), 3), (.iconst 0, 1), (.ireturn, 1)] := Jvm.Free.DS.facts 0 _ (by decide +kernel) (by decide +kernel)
theorem d_Maps_isLarge_0 : decode prog_3_method_2_code 0 = .ok (.aload_n 0, 1) := F_Maps_isLarge_0.1
theorem d_Maps_isLarge_1 : decode prog_3_method_2_code 1 = .ok (.invokestatic 9, 3) := F_Maps_isLarge_0.2.1
theorem d_Maps_isLarge_4 : decode prog_3_method_2_code 4 = .ok (.ldc2_w 15, 3) := F_Maps_isLarge_0.2.2.1
theorem d_Maps_isLarge_7 : decode prog_3_method_2_code 7 = .ok (.lcmp, 1) := F_Maps_isLarge_0.2.2.2.1
theorem d_Maps_isLarge_8 : decode prog_3_method_2_code 8 = .ok (.ifCond .le (7), 3) := F_Maps_isLarge_0.2.2.2.2.1
theorem d_Maps_isLarge_11 : decode prog_3_method_2_code 11 = .ok (.iconst 1, 1) := F_Maps_isLarge_0.2.2.2.2.2.1
theorem d_Maps_isLarge_12 : decode prog_3_method_2_code 12 = .ok (.goto (4), 3) := F_Maps_isLarge_0.2.2.2.2.2.2.1
theorem d_Maps_isLarge_15 : decode prog_3_method_2_code 15 = .ok (.iconst 0, 1) := F_Maps_isLarge_0.2.2.2.2.2.2.2.1
theorem d_Maps_isLarge_16 : decode prog_3_method_2_code 16 = .ok (.ireturn, 1) := F_Maps_isLarge_0.2.2.2.2.2.2.2.2.1
theorem F_Rows_greatest_0 : Jvm.Free.DS.Facts prog_9_method_11_code 0 [(.lconst 0, 1), (.lstore_n 1, 1), (.iconst 0, 1), (.istore_n 3, 1), (.iload_n 3, 1), (.aload_n 0, 1), (.arraylength, 1), (.if_icmp .ge (20), 3), (.lload_n 1, 1), (.aload_n 0, 1), (.iload_n 3, 1), (.laload, 1), (.invokestatic 9, 3), (.invokestatic 35, 3), (.lstore_n 1, 1), (.iinc 3 (1), 3), (.goto (-20), 3), (.lload_n 1, 1), (.lreturn, 1)] := Jvm.Free.DS.facts 0 _ (by decide +kernel) (by decide +kernel)
theorem d_Rows_greatest_0 : decode prog_9_method_11_code 0 = .ok (.lconst 0, 1) := F_Rows_greatest_0.1
theorem d_Rows_greatest_1 : decode prog_9_method_11_code 1 = .ok (.lstore_n 1, 1) := F_Rows_greatest_0.2.1
theorem d_Rows_greatest_2 : decode prog_9_method_11_code 2 = .ok (.iconst 0, 1) := F_Rows_greatest_0.2.2.1
theorem d_Rows_greatest_3 : decode prog_9_method_11_code 3 = .ok (.istore_n 3, 1) := F_Rows_greatest_0.2.2.2.1
theorem d_Rows_greatest_4 : decode prog_9_method_11_code 4 = .ok (.iload_n 3, 1) := F_Rows_greatest_0.2.2.2.2.1
theorem d_Rows_greatest_5 : decode prog_9_method_11_code 5 = .ok (.aload_n 0, 1) := F_Rows_greatest_0.2.2.2.2.2.1
theorem d_Rows_greatest_6 : decode prog_9_method_11_code 6 = .ok (.arraylength, 1) := F_Rows_greatest_0.2.2.2.2.2.2.1
theorem d_Rows_greatest_7 : decode prog_9_method_11_code 7 = .ok (.if_icmp .ge (20), 3) := F_Rows_greatest_0.2.2.2.2.2.2.2.1
theorem d_Rows_greatest_10 : decode prog_9_method_11_code 10 = .ok (.lload_n 1, 1) := F_Rows_greatest_0.2.2.2.2.2.2.2.2.1
theorem d_Rows_greatest_11 : decode prog_9_method_11_code 11 = .ok (.aload_n 0, 1) := F_Rows_greatest_0.2.2.2.2.2.2.2.2.2.1
theorem d_Rows_greatest_12 : decode prog_9_method_11_code 12 = .ok (.iload_n 3, 1) := F_Rows_greatest_0.2.2.2.2.2.2.2.2.2.2.1
theorem d_Rows_greatest_13 : decode prog_9_method_11_code 13 = .ok (.laload, 1) := F_Rows_greatest_0.2.2.2.2.2.2.2.2.2.2.2.1
theorem d_Rows_greatest_14 : decode prog_9_method_11_code 14 = .ok (.invokestatic 9, 3) := F_Rows_greatest_0.2.2.2.2.2.2.2.2.2.2.2.2.1
theorem d_Rows_greatest_17 : decode prog_9_method_11_code 17 = .ok (.invokestatic 35, 3) := F_Rows_greatest_0.2.2.2.2.2.2.2.2.2.2.2.2.2.1
theorem d_Rows_greatest_20 : decode prog_9_method_11_code 20 = .ok (.lstore_n 1, 1) := F_Rows_greatest_0.2.2.2.2.2.2.2.2.2.2.2.2.2.2.1
theorem d_Rows_greatest_21 : decode prog_9_method_11_code 21 = .ok (.iinc 3 (1), 3) := F_Rows_greatest_0.2.2.2.2.2.2.2.2.2.2.2.2.2.2.2.1
theorem d_Rows_greatest_24 : decode prog_9_method_11_code 24 = .ok (.goto (-20), 3) := F_Rows_greatest_0.2.2.2.2.2.2.2.2.2.2.2.2.2.2.2.2.1
theorem d_Rows_greatest_27 : decode prog_9_method_11_code 27 = .ok (.lload_n 1, 1) := F_Rows_greatest_0.2.2.2.2.2.2.2.2.2.2.2.2.2.2.2.2.2.1
theorem d_Rows_greatest_28 : decode prog_9_method_11_code 28 = .ok (.lreturn, 1) := F_Rows_greatest_0.2.2.2.2.2.2.2.2.2.2.2.2.2.2.2.2.2.2.1
theorem F_Plane_addMap_0 : Jvm.Free.DS.Facts prog_6_method_6_code 0 [(.aload_n 0, 1), (.getfield 33, 3), (.bipush (16), 2), (.if_icmp .ge (26), 3), (.aload_n 1, 1), (.aload_n 0, 1), (.getfield 19, 3), (.aload_n 0, 1), (.getfield 33, 3), (.aaload, 1), (.invokestatic 39, 3), (.aload_n 0, 1), (.dup, 1), (.getfield 33, 3), (.iconst 1, 1), (.iadd, 1), (.putfield 33, 3), (.return_, 1)] := Jvm.Free.DS.facts 0 _ (by decide +kernel) (by decide +kernel)
theorem d_Plane_addMap_0 : decode prog_6_method_6_code 0 = .ok (.aload_n 0, 1) := F_Plane_addMap_0.1
theorem d_Plane_addMap_1 : decode prog_6_method_6_code 1 = .ok (.getfield 33, 3) := F_Plane_addMap_0.2.1
theorem d_Plane_addMap_4 : decode prog_6_method_6_code 4 = .ok (.bipush (16), 2) := F_Plane_addMap_0.2.2.1
theorem d_Plane_addMap_6 : decode prog_6_method_6_code 6 = .ok (.if_icmp .ge (26), 3) := F_Plane_addMap_0.2.2.2.1
theorem d_Plane_addMap_9 : decode prog_6_method_6_code 9 = .ok (.aload_n 1, 1) := F_Plane_addMap_0.2.2.2.2.1
theorem d_Plane_addMap_10 : decode prog_6_method_6_code 10 = .ok (.aload_n 0, 1) := F_Plane_addMap_0.2.2.2.2.2.1
theorem d_Plane_addMap_11 : decode prog_6_method_6_code 11 = .ok (.getfield 19, 3) := F_Plane_addMap_0.2.2.2.2.2.2.1
theorem d_Plane_addMap_14 : decode prog_6_method_6_code 14 = .ok (.aload_n 0, 1) := F_Plane_addMap_0.2.2.2.2.2.2.2.1
theorem d_Plane_addMap_15 : decode prog_6_method_6_code 15 = .ok (.getfield 33, 3) := F_Plane_addMap_0.2.2.2.2.2.2.2.2.1
theorem d_Plane_addMap_18 : decode prog_6_method_6_code 18 = .ok (.aaload, 1) := F_Plane_addMap_0.2.2.2.2.2.2.2.2.2.1
theorem d_Plane_addMap_19 : decode prog_6_method_6_code 19 = .ok (.invokestatic 39, 3) := F_Plane_addMap_0.2.2.2.2.2.2.2.2.2.2.1
theorem d_Plane_addMap_22 : decode prog_6_method_6_code 22 = .ok (.aload_n 0, 1) := F_Plane_addMap_0.2.2.2.2.2.2.2.2.2.2.2.1
theorem d_Plane_addMap_23 : decode prog_6_method_6_code 23 = .ok (.dup, 1) := F_Plane_addMap_0.2.2.2.2.2.2.2.2.2.2.2.2.1
theorem d_Plane_addMap_24 : decode prog_6_method_6_code 24 = .ok (.getfield 33, 3) := F_Plane_addMap_0.2.2.2.2.2.2.2.2.2.2.2.2.2.1
theorem d_Plane_addMap_27 : decode prog_6_method_6_code 27 = .ok (.iconst 1, 1) := F_Plane_addMap_0.2.2.2.2.2.2.2.2.2.2.2.2.2.2.1
theorem d_Plane_addMap_28 : decode prog_6_method_6_code 28 = .ok (.iadd, 1) := F_Plane_addMap_0.2.2.2.2.2.2.2.2.2.2.2.2.2.2.2.1
theorem d_Plane_addMap_29 : decode prog_6_method_6_code 29 = .ok (.putfield 33, 3) := F_Plane_addMap_0.2.2.2.2.2.2.2.2.2.2.2.2.2.2.2.2.1
theorem d_Plane_addMap_32 : decode prog_6_method_6_code 32 = .ok (.return_, 1) := F_Plane_addMap_0.2.2.2.2.2.2.2.2.2.2.2.2.2.2.2.2.2.1
theorem F_Rows_copy_0 : Jvm.Free.DS.Facts prog_9_method_8_code 0 [(.aload_n 0, 1), (.iconst 0, 1), (.aload_n 1, 1), (.iconst 0, 1), (.aload_n 0, 1), (.arraylength, 1), (.aload_n 1, 1), (.arraylength, 1), (.invokestatic 25, 3), (.invokestatic 29, 3), (.return_, 1)] := Jvm.Free.DS.facts 0 _ (by decide +kernel) (by decide +kernel)
theorem d_Rows_copy_0 : decode prog_9_method_8_code 0 = .ok (.aload_n 0, 1) := F_Rows_copy_0.1
theorem d_Rows_copy_1 : decode prog_9_method_8_code 1 = .ok (.iconst 0, 1) := F_Rows_copy_0.2.1
theorem d_Rows_copy_2 : decode prog_9_method_8_code 2 = .ok (.aload_n 1, 1) := F_Rows_copy_0.2.2.1
theorem d_Rows_copy_3 : decode prog_9_method_8_code 3 = .ok (.iconst 0, 1) := F_Rows_copy_0.2.2.2.1
theorem d_Rows_copy_4 : decode prog_9_method_8_code 4 = .ok (.aload_n 0, 1) := F_Rows_copy_0.2.2.2.2.1
theorem d_Rows_copy_5 : decode prog_9_method_8_code 5 = .ok (.arraylength, 1) := F_Rows_copy_0.2.2.2.2.2.1
theorem d_Rows_copy_6 : decode prog_9_method_8_code 6 = .ok (.aload_n 1, 1) := F_Rows_copy_0.2.2.2.2.2.2.1
theorem d_Rows_copy_7 : decode prog_9_method_8_code 7 = .ok (.arraylength, 1) := F_Rows_copy_0.2.2.2.2.2.2.2.1
theorem d_Rows_copy_8 : decode prog_9_method_8_code 8 = .ok (.invokestatic 25, 3) := F_Rows_copy_0.2.2.2.2.2.2.2.2.1
theorem d_Rows_copy_11 : decode prog_9_method_8_code 11 = .ok (.invokestatic 29, 3) := F_Rows_copy_0.2.2.2.2.2.2.2.2.2.1
theorem d_Rows_copy_14 : decode prog_9_method_8_code 14 = .ok (.return_, 1) := F_Rows_copy_0.2.2.2.2.2.2.2.2.2.2.1
theorem F_Reader_readPoint_0 : Jvm.Free.DS.Facts prog_8_method_5_code 0 [(.aload_n 0, 1), (.getfield 37, 3), (.getfield 147, 3), (.bipush (8), 2), (.if_icmp .ne (9), 3), (.aload_n 0, 1), (.iconst 2, 1), (.invokevirtual 88, 3), (.ireturn, 1), (.aload_n 0, 1), (.invokevirtual 66, 3), (.aload_n 0, 1), (.iconst 3, 1), (.sipush (9999), 3), (.invokevirtual 105, 3), (.ifCond .ne (5), 3), (.iconst 0, 1), (.ireturn, 1), (.aload_n 0, 1), (.getfield 69, 3), (.iconst 1, 1), (.if_icmp .eq (9), 3), (.aload_n 0, 1), (.iconst 1, 1), (.invokevirtual 88, 3), (.ireturn, 1), (.aload_n 0, 1), (.getfield 18, 3), (.invokestatic 150, 3), (.lconst 0, 1), (.lcmp, 1), (.ifCond .ne (9), 3)] := Jvm.Free.DS.facts 0 _ (by decide +kernel) (by decide +kernel)
theorem d_Reader_readPoint_0 : decode prog_8_method_5_code 0 = .ok (.aload_n 0, 1) := F_Reader_readPoint_0.1
theorem d_Reader_readPoint_1 : decode prog_8_method_5_code 1 = .ok (.getfield 37, 3) := F_Reader_readPoint_0.2.1
theorem d_Reader_readPoint_4 : decode prog_8_method_5_code 4 = .ok (.getfield 147, 3) := F_Reader_readPoint_0.2.2.1
theorem d_Reader_readPoint_7 : decode prog_8_method_5_code 7 = .ok (.bipush (8), 2) := F_Reader_readPoint_0.2.2.2.1
theorem d_Reader_readPoint_9 : decode prog_8_method_5_code 9 = .ok (.if_icmp .ne (9), 3) := F_Reader_readPoint_0.2.2.2.2.1
theorem d_Reader_readPoint_12 : decode prog_8_method_5_code 12 = .ok (.aload_n 0, 1) := F_Reader_readPoint_0.2.2.2.2.2.1
theorem d_Reader_readPoint_13 : decode prog_8_method_5_code 13 = .ok (.iconst 2, 1) := F_Reader_readPoint_0.2.2.2.2.2.2.1
theorem d_Reader_readPoint_14 : decode prog_8_method_5_code 14 = .ok (.invokevirtual 88, 3) := F_Reader_readPoint_0.2.2.2.2.2.2.2.1
theorem d_Reader_readPoint_17 : decode prog_8_method_5_code 17 = .ok (.ireturn, 1) := F_Reader_readPoint_0.2.2.2.2.2.2.2.2.1
theorem d_Reader_readPoint_18 : decode prog_8_method_5_code 18 = .ok (.aload_n 0, 1) := F_Reader_readPoint_0.2.2.2.2.2.2.2.2.2.1
theorem d_Reader_readPoint_19 : decode prog_8_method_5_code 19 = .ok (.invokevirtual 66, 3) := F_Reader_readPoint_0.2.2.2.2.2.2.2.2.2.2.1
theorem d_Reader_readPoint_22 : decode prog_8_method_5_code 22 = .ok (.aload_n 0, 1) := F_Reader_readPoint_0.2.2.2.2.2.2.2.2.2.2.2.1
theorem d_Reader_readPoint_23 : decode prog_8_method_5_code 23 = .ok (.iconst 3, 1) := F_Reader_readPoint_0.2.2.2.2.2.2.2.2.2.2.2.2.1
theorem d_Reader_readPoint_24 : decode prog_8_method_5_code 24 = .ok (.sipush (9999), 3) := F_Reader_readPoint_0.2.2.2.2.2.2.2.2.2.2.2.2.2.1
theorem d_Reader_readPoint_27 : decode prog_8_method_5_code 27 = .ok (.invokevirtual 105, 3) := F_Reader_readPoint_0.2.2.2.2.2.2.2.2.2.2.2.2.2.2.1
theorem d_Reader_readPoint_30 : decode prog_8_method_5_code 30 = .ok (.ifCond .ne (5), 3) := F_Reader_readPoint_0.2.2.2.2.2.2.2.2.2.2.2.2.2.2.2.1
theorem d_Reader_readPoint_33 : decode prog_8_method_5_code 33 = .ok (.iconst 0, 1) := F_Reader_readPoint_0.2.2.2.2.2.2.2.2.2.2.2.2.2.2.2.2.1
theorem d_Reader_readPoint_34 : decode prog_8_method_5_code 34 = .ok (.ireturn, 1) := F_Reader_readPoint_0.2.2.2.2.2.2.2.2.2.2.2.2.2.2.2.2.2.1
theorem d_Reader_readPoint_35 : decode prog_8_method_5_code 35 = .ok (.aload_n 0, 1) := F_Reader_readPoint_0.2.2.2.2.2.2.2.2.2.2.2.2.2.2.2.2.2.2.1
theorem d_Reader_readPoint_36 : decode prog_8_method_5_code 36 = .ok (.getfield 69, 3) := F_Reader_readPoint_0.2.2.2.2.2.2.2.2.2.2.2.2.2.2.2.2.2.2.2.1
theorem d_Reader_readPoint_39 : decode prog_8_method_5_code 39 = .ok (.iconst 1, 1) := F_Reader_readPoint_0.2.2.2.2.2.2.2.2.2.2.2.2.2.2.2.2.2.2.2.2.1
theorem d_Reader_readPoint_40 : decode prog_8_method_5_code 40 = .ok (.if_icmp .eq (9), 3) := F_Reader_readPoint_0.2.2.2.2.2.2.2.2.2.2.2.2.2.2.2.2.2.2.2.2.2.1
theorem d_Reader_readPoint_43 : decode prog_8_method_5_code 43 = .ok (.aload_n 0, 1) := F_Reader_readPoint_0.2.2.2.2.2.2.2.2.2.2.2.2.2.2.2.2.2.2.2.2.2.2.1
theorem d_Reader_readPoint_44 : decode prog_8_method_5_code 44 = .ok (.iconst 1, 1) := F_Reader_readPoint_0.2.2.2.2.2.2.2.2.2.2.2.2.2.2.2.2.2.2.2.2.2.2.2.1
theorem d_Reader_readPoint_45 : decode prog_8_method_5_code 45 = .ok (.invokevirtual 88, 3) := F_Reader_readPoint_0.2.2.2.2.2.2.2.2.2.2.2.2.2.2.2.2.2.2.2.2.2.2.2.2.1
theorem d_Reader_readPoint_48 : decode prog_8_method_5_code 48 = .ok (.ireturn, 1) := F_Reader_readPoint_0.2.2.2.2.2.2.2.2.2.2.2.2.2.2.2.2.2.2.2.2.2.2.2.2.2.1
theorem d_Reader_readPoint_49 : decode prog_8_method_5_code 49 = .ok (.aload_n 0, 1) := F_Reader_readPoint_0.2.2.2.2.2.2.2.2.2.2.2.2.2.2.2.2.2.2.2.2.2.2.2.2.2.2.1
theorem d_Reader_readPoint_50 : decode prog_8_method_5_code 50 = .ok (.getfield 18, 3) := F_Reader_readPoint_0.2.2.2.2.2.2.2.2.2.2.2.2.2.2.2.2.2.2.2.2.2.2.2.2.2.2.2.1
theorem d_Reader_readPoint_53 : decode prog_8_method_5_code 53 = .ok (.invokestatic 150, 3) := F_Reader_readPoint_0.2.2.2.2.2.2.2.2.2.2.2.2.2.2.2.2.2.2.2.2.2.2.2.2.2.2.2.2.1
theorem d_Reader_readPoint_56 : decode prog_8_method_5_code 56 = .ok (.lconst 0, 1) := F_Reader_readPoint_0.2.2.2.2.2.2.2.2.2.2.2.2.2.2.2.2.2.2.2.2.2.2.2.2.2.2.2.2.2.1
theorem d_Reader_readPoint_57 : decode prog_8_method_5_code 57 = .ok (.lcmp, 1) := F_Reader_readPoint_0.2.2.2.2.2.2.2.2.2.2.2.2.2.2.2.2.2.2.2.2.2.2.2.2.2.2.2.2.2.2.1
theorem d_Reader_readPoint_58 : decode prog_8_method_5_code 58 = .ok (.ifCond .ne (9), 3) := F_Reader_readPoint_0.2.2.2.2.2.2.2.2.2.2.2.2.2.2.2.2.2.2.2.2.2.2.2.2.2.2.2.2.2.2.2.1
theorem F_Reader_readPoint_61 : Jvm.Free.DS.Facts prog_8_method_5_code 61 [(.aload_n 0, 1), (.iconst 4, 1), (.invokevirtual 88, 3), (.ireturn, 1), (.aload_n 0, 1), (.getfield 37, 3), (.aload_n 0, 1), (.getfield 18, 3), (.invokevirtual 154, 3), (.aload_n 0, 1), (.invokevirtual 66, 3), (.iconst 1, 1), (.ireturn, 1)] := Jvm.Free.DS.facts 61 _ (by decide +kernel) (by decide +kernel)
theorem d_Reader_readPoint_61 : decode prog_8_method_5_code 61 = .ok (.aload_n 0, 1) := F_Reader_readPoint_61.1
theorem d_Reader_readPoint_62 : decode prog_8_method_5_code 62 = .ok (.iconst 4, 1) := F_Reader_readPoint_61.2.1
theorem d_Reader_readPoint_63 : decode prog_8_method_5_code 63 = .ok (.invokevirtual 88, 3) := F_Reader_readPoint_61.2.2.1
theorem d_Reader_readPoint_66 : decode prog_8_method_5_code 66 = .ok (.ireturn, 1) := F_Reader_readPoint_61.2.2.2.1
theorem d_Reader_readPoint_67 : decode prog_8_method_5_code 67 = .ok (.aload_n 0, 1) := F_Reader_readPoint_61.2.2.2.2.1
theorem d_Reader_readPoint_68 : decode prog_8_method_5_code 68 = .ok (.getfield 37, 3) := F_Reader_readPoint_61.2.2.2.2.2.1
theorem d_Reader_readPoint_71 : decode prog_8_method_5_code 71 = .ok (.aload_n 0, 1) := F_Reader_readPoint_61.2.2.2.2.2.2.1
theorem d_Reader_readPoint_72 : decode prog_8_method_5_code 72 = .ok (.getfield 18, 3) := F_Reader_readPoint_61.2.2.2.2.2.2.2.1
theorem d_Reader_readPoint_75 : decode prog_8_method_5_code 75 = .ok (.invokevirtual 154, 3) := F_Reader_readPoint_61.2.2.2.2.2.2.2.2.1
theorem d_Reader_readPoint_78 : decode prog_8_method_5_code 78 = .ok (.aload_n 0, 1) := F_Reader_readPoint_61.2.2.2.2.2.2.2.2.2.1
theorem d_Reader_readPoint_79 : decode prog_8_method_5_code 79 = .ok (.invokevirtual 66, 3) := F_Reader_readPoint_61.2.2.2.2.2.2.2.2.2.2.1
theorem d_Reader_readPoint_82 : decode prog_8_method_5_code 82 = .ok (.iconst 1, 1) := F_Reader_readPoint_61.2.2.2.2.2.2.2.2.2.2.2.1
theorem d_Reader_readPoint_83 : decode prog_8_method_5_code 83 = .ok (.ireturn, 1) := F_Reader_readPoint_61.2.2.2.2.2.2.2.2.2.2.2.2.1
theorem F_Plane_addPoint_0 : Jvm.Free.DS.Facts prog_6_method_9_code 0 [(.aload_n 0, 1), (.getfield 36, 3), (.bipush (8), 2), (.if_icmp .ge (38), 3), (.aload_n 1, 1), (.aload_n 0, 1), (.getfield 22, 3), (.aload_n 0, 1), (.getfield 36, 3), (.aaload, 1), (.invokestatic 39, 3), (.aload_n 0, 1), (.getfield 22, 3), (.aload_n 0, 1), (.getfield 36, 3), (.aaload, 1), (.invokestatic 49, 3), (.aload_n 0, 1), (.dup, 1), (.getfield 36, 3), (.iconst 1, 1), (.iadd, 1), (.putfield 36, 3), (.return_, 1)] := Jvm.Free.DS.facts 0 _ (by decide +kernel) (by decide +kernel)
theorem d_Plane_addPoint_0 : decode prog_6_method_9_code 0 = .ok (.aload_n 0, 1) := F_Plane_addPoint_0.1
theorem d_Plane_addPoint_1 : decode prog_6_method_9_code 1 = .ok (.getfield 36, 3) := F_Plane_addPoint_0.2.1
theorem d_Plane_addPoint_4 : decode prog_6_method_9_code 4 = .ok (.bipush (8), 2) := F_Plane_addPoint_0.2.2.1
theorem d_Plane_addPoint_6 : decode prog_6_method_9_code 6 = .ok (.if_icmp .ge (38), 3) := F_Plane_addPoint_0.2.2.2.1
theorem d_Plane_addPoint_9 : decode prog_6_method_9_code 9 = .ok (.aload_n 1, 1) := F_Plane_addPoint_0.2.2.2.2.1
theorem d_Plane_addPoint_10 : decode prog_6_method_9_code 10 = .ok (.aload_n 0, 1) := F_Plane_addPoint_0.2.2.2.2.2.1
theorem d_Plane_addPoint_11 : decode prog_6_method_9_code 11 = .ok (.getfield 22, 3) := F_Plane_addPoint_0.2.2.2.2.2.2.1
theorem d_Plane_addPoint_14 : decode prog_6_method_9_code 14 = .ok (.aload_n 0, 1) := F_Plane_addPoint_0.2.2.2.2.2.2.2.1
theorem d_Plane_addPoint_15 : decode prog_6_method_9_code 15 = .ok (.getfield 36, 3) := F_Plane_addPoint_0.2.2.2.2.2.2.2.2.1
theorem d_Plane_addPoint_18 : decode prog_6_method_9_code 18 = .ok (.aaload, 1) := F_Plane_addPoint_0.2.2.2.2.2.2.2.2.2.1
theorem d_Plane_addPoint_19 : decode prog_6_method_9_code 19 = .ok (.invokestatic 39, 3) := F_Plane_addPoint_0.2.2.2.2.2.2.2.2.2.2.1
theorem d_Plane_addPoint_22 : decode prog_6_method_9_code 22 = .ok (.aload_n 0, 1) := F_Plane_addPoint_0.2.2.2.2.2.2.2.2.2.2.2.1
theorem d_Plane_addPoint_23 : decode prog_6_method_9_code 23 = .ok (.getfield 22, 3) := F_Plane_addPoint_0.2.2.2.2.2.2.2.2.2.2.2.2.1
theorem d_Plane_addPoint_26 : decode prog_6_method_9_code 26 = .ok (.aload_n 0, 1) := F_Plane_addPoint_0.2.2.2.2.2.2.2.2.2.2.2.2.2.1
theorem d_Plane_addPoint_27 : decode prog_6_method_9_code 27 = .ok (.getfield 36, 3) := F_Plane_addPoint_0.2.2.2.2.2.2.2.2.2.2.2.2.2.2.1
theorem d_Plane_addPoint_30 : decode prog_6_method_9_code 30 = .ok (.aaload, 1) := F_Plane_addPoint_0.2.2.2.2.2.2.2.2.2.2.2.2.2.2.2.1
theorem d_Plane_addPoint_31 : decode prog_6_method_9_code 31 = .ok (.invokestatic 49, 3) := F_Plane_addPoint_0.2.2.2.2.2.2.2.2.2.2.2.2.2.2.2.2.1
theorem d_Plane_addPoint_34 : decode prog_6_method_9_code 34 = .ok (.aload_n 0, 1) := F_Plane_addPoint_0.2.2.2.2.2.2.2.2.2.2.2.2.2.2.2.2.2.1
theorem d_Plane_addPoint_35 : decode prog_6_method_9_code 35 = .ok (.dup, 1) := F_Plane_addPoint_0.2.2.2.2.2.2.2.2.2.2.2.2.2.2.2.2.2.2.1
theorem d_Plane_addPoint_36 : decode prog_6_method_9_code 36 = .ok (.getfield 36, 3) := F_Plane_addPoint_0.2.2.2.2.2.2.2.2.2.2.2.2.2.2.2.2.2.2.2.1
theorem d_Plane_addPoint_39 : decode prog_6_method_9_code 39 = .ok (.iconst 1, 1) := F_Plane_addPoint_0.2.2.2.2.2.2.2.2.2.2.2.2.2.2.2.2.2.2.2.2.1
theorem d_Plane_addPoint_40 : decode prog_6_method_9_code 40 = .ok (.iadd, 1) := F_Plane_addPoint_0.2.2.2.2.2.2.2.2.2.2.2.2.2.2.2.2.2.2.2.2.2.1
theorem d_Plane_addPoint_41 : decode prog_6_method_9_code 41 = .ok (.putfield 36, 3) := F_Plane_addPoint_0.2.2.2.2.2.2.2.2.2.2.2.2.2.2.2.2.2.2.2.2.2.2.1
theorem d_Plane_addPoint_44 : decode prog_6_method_9_code 44 = .ok (.return_, 1) := F_Plane_addPoint_0.2.2.2.2.2.2.2.2.2.2.2.2.2.2.2.2.2.2.2.2.2.2.2.1
theorem F_Past_forget_0 : Jvm.Free.DS.Facts prog_5_method_2_code 0 [(.aload_n 0, 1), (.iconst 0, 1), (.putfield 23, 3), (.return_, 1)] := Jvm.Free.DS.facts 0 _ (by decide +kernel) (by decide +kernel)
theorem d_Past_forget_0 : decode prog_5_method_2_code 0 = .ok (.aload_n 0, 1) := F_Past_forget_0.1
theorem d_Past_forget_1 : decode prog_5_method_2_code 1 = .ok (.iconst 0, 1) := F_Past_forget_0.2.1
theorem d_Past_forget_2 : decode prog_5_method_2_code 2 = .ok (.putfield 23, 3) := F_Past_forget_0.2.2.1
theorem d_Past_forget_5 : decode prog_5_method_2_code 5 = .ok (.return_, 1) := F_Past_forget_0.2.2.2.1
theorem F_CM_fault_0 : Jvm.Free.DS.Facts prog_1_method_4_code 0 [(.iload_n 1, 1), (.ifCond .ne (11), 3), (.aload_n 0, 1), (.getfield 40, 3), (.getfield 121, 3), (.ireturn, 1), (.iload_n 1, 1), (.iconst 1, 1), (.if_icmp .ne (13), 3), (.aload_n 0, 1), (.getfield 40, 3), (.getfield 124, 3), (.goto (4), 3), (.iconst (-1), 1), (.ireturn, 1)] := Jvm.Free.DS.facts 0 _ (by decide +kernel) (by decide +kernel)
theorem d_CM_fault_0 : decode prog_1_method_4_code 0 = .ok (.iload_n 1, 1) := F_CM_fault_0.1
theorem d_CM_fault_1 : decode prog_1_method_4_code 1 = .ok (.ifCond .ne (11), 3) := F_CM_fault_0.2.1
theorem d_CM_fault_4 : decode prog_1_method_4_code 4 = .ok (.aload_n 0, 1) := F_CM_fault_0.2.2.1
theorem d_CM_fault_5 : decode prog_1_method_4_code 5 = .ok (.getfield 40, 3) := F_CM_fault_0.2.2.2.1
theorem d_CM_fault_8 : decode prog_1_method_4_code 8 = .ok (.getfield 121, 3) := F_CM_fault_0.2.2.2.2.1
theorem d_CM_fault_11 : decode prog_1_method_4_code 11 = .ok (.ireturn, 1) := F_CM_fault_0.2.2.2.2.2.1
theorem d_CM_fault_12 : decode prog_1_method_4_code 12 = .ok (.iload_n 1, 1) := F_CM_fault_0.2.2.2.2.2.2.1
theorem d_CM_fault_13 : decode prog_1_method_4_code 13 = .ok (.iconst 1, 1) := F_CM_fault_0.2.2.2.2.2.2.2.1
theorem d_CM_fault_14 : decode prog_1_method_4_code 14 = .ok (.if_icmp .ne (13), 3) := F_CM_fault_0.2.2.2.2.2.2.2.2.1
theorem d_CM_fault_17 : decode prog_1_method_4_code 17 = .ok (.aload_n 0, 1) := F_CM_fault_0.2.2.2.2.2.2.2.2.2.1
theorem d_CM_fault_18 : decode prog_1_method_4_code 18 = .ok (.getfield 40, 3) := F_CM_fault_0.2.2.2.2.2.2.2.2.2.2.1
theorem d_CM_fault_21 : decode prog_1_method_4_code 21 = .ok (.getfield 124, 3) := F_CM_fault_0.2.2.2.2.2.2.2.2.2.2.2.1
theorem d_CM_fault_24 : decode prog_1_method_4_code 24 = .ok (.goto (4), 3) := F_CM_fault_0.2.2.2.2.2.2.2.2.2.2.2.2.1
theorem d_CM_fault_27 : decode prog_1_method_4_code 27 = .ok (.iconst (-1), 1) := F_CM_fault_0.2.2.2.2.2.2.2.2.2.2.2.2.2.1
theorem d_CM_fault_28 : decode prog_1_method_4_code 28 = .ok (.ireturn, 1) := F_CM_fault_0.2.2.2.2.2.2.2.2.2.2.2.2.2.2.1
theorem F_CM_shape_0 : Jvm.Free.DS.Facts prog_1_method_8_code 0 [(.aload_n 0, 1), (.getfield 12, 3), (.iload_n 1, 1), (.invokevirtual 127, 3), (.ifCond .eq (21), 3), (.aload_n 0, 1), (.getfield 12, 3), (.getfield 142, 3), (.iload_n 1, 1), (.aaload, 1), (.invokevirtual 166, 3), (.invokestatic 170, 3), (.goto (4), 3), (.iconst (-1), 1), (.ireturn, 1)] := Jvm.Free.DS.facts 0 _ (by decide +kernel) (by decide +kernel)
theorem d_CM_shape_0 : decode prog_1_method_8_code 0 = .ok (.aload_n 0, 1) := F_CM_shape_0.1
theorem d_CM_shape_1 : decode prog_1_method_8_code 1 = .ok (.getfield 12, 3) := F_CM_shape_0.2.1
theorem d_CM_shape_4 : decode prog_1_method_8_code 4 = .ok (.iload_n 1, 1) := F_CM_shape_0.2.2.1
theorem d_CM_shape_5 : decode prog_1_method_8_code 5 = .ok (.invokevirtual 127, 3) := F_CM_shape_0.2.2.2.1
theorem d_CM_shape_8 : decode prog_1_method_8_code 8 = .ok (.ifCond .eq (21), 3) := F_CM_shape_0.2.2.2.2.1
theorem d_CM_shape_11 : decode prog_1_method_8_code 11 = .ok (.aload_n 0, 1) := F_CM_shape_0.2.2.2.2.2.1
theorem d_CM_shape_12 : decode prog_1_method_8_code 12 = .ok (.getfield 12, 3) := F_CM_shape_0.2.2.2.2.2.2.1
theorem d_CM_shape_15 : decode prog_1_method_8_code 15 = .ok (.getfield 142, 3) := F_CM_shape_0.2.2.2.2.2.2.2.1
theorem d_CM_shape_18 : decode prog_1_method_8_code 18 = .ok (.iload_n 1, 1) := F_CM_shape_0.2.2.2.2.2.2.2.2.1
theorem d_CM_shape_19 : decode prog_1_method_8_code 19 = .ok (.aaload, 1) := F_CM_shape_0.2.2.2.2.2.2.2.2.2.1
theorem d_CM_shape_20 : decode prog_1_method_8_code 20 = .ok (.invokevirtual 166, 3) := F_CM_shape_0.2.2.2.2.2.2.2.2.2.2.1
theorem d_CM_shape_23 : decode prog_1_method_8_code 23 = .ok (.invokestatic 170, 3) := F_CM_shape_0.2.2.2.2.2.2.2.2.2.2.2.1
theorem d_CM_shape_26 : decode prog_1_method_8_code 26 = .ok (.goto (4), 3) := F_CM_shape_0.2.2.2.2.2.2.2.2.2.2.2.2.1
theorem d_CM_shape_29 : decode prog_1_method_8_code 29 = .ok (.iconst (-1), 1) := F_CM_shape_0.2.2.2.2.2.2.2.2.2.2.2.2.2.1
theorem d_CM_shape_30 : decode prog_1_method_8_code 30 = .ok (.ireturn, 1) := F_CM_shape_0.2.2.2.2.2.2.2.2.2.2.2.2.2.2.1
theorem F_Plane_hasQuad_0 : Jvm.Free.DS.Facts prog_6_method_3_code 0 [(.iload_n 1, 1), (.ifCond .lt (15), 3), (.iload_n 1, 1), (.aload_n 0, 1), (.getfield 30, 3), (.if_icmp .ge (7), 3), (.iconst 1, 1), (.goto (4), 3), (.iconst 0, 1), (.ireturn, 1)] := Jvm.Free.DS.facts 0 _ (by decide +kernel) (by decide +kernel)
theorem d_Plane_hasQuad_0 : decode prog_6_method_3_code 0 = .ok (.iload_n 1, 1) := F_Plane_hasQuad_0.1
theorem d_Plane_hasQuad_1 : decode prog_6_method_3_code 1 = .ok (.ifCond .lt (15), 3) := F_Plane_hasQuad_0.2.1
theorem d_Plane_hasQuad_4 : decode prog_6_method_3_code 4 = .ok (.iload_n 1, 1) := F_Plane_hasQuad_0.2.2.1
theorem d_Plane_hasQuad_5 : decode prog_6_method_3_code 5 = .ok (.aload_n 0, 1) := F_Plane_hasQuad_0.2.2.2.1
theorem d_Plane_hasQuad_6 : decode prog_6_method_3_code 6 = .ok (.getfield 30, 3) := F_Plane_hasQuad_0.2.2.2.2.1
theorem d_Plane_hasQuad_9 : decode prog_6_method_3_code 9 = .ok (.if_icmp .ge (7), 3) := F_Plane_hasQuad_0.2.2.2.2.2.1
theorem d_Plane_hasQuad_12 : decode prog_6_method_3_code 12 = .ok (.iconst 1, 1) := F_Plane_hasQuad_0.2.2.2.2.2.2.1
theorem d_Plane_hasQuad_13 : decode prog_6_method_3_code 13 = .ok (.goto (4), 3) := F_Plane_hasQuad_0.2.2.2.2.2.2.2.1
theorem d_Plane_hasQuad_16 : decode prog_6_method_3_code 16 = .ok (.iconst 0, 1) := F_Plane_hasQuad_0.2.2.2.2.2.2.2.2.1
theorem d_Plane_hasQuad_17 : decode prog_6_method_3_code 17 = .ok (.ireturn, 1) := F_Plane_hasQuad_0.2.2.2.2.2.2.2.2.2.1
theorem F_Quad_leftTurns_0 : Jvm.Free.DS.Facts prog_7_method_4_code 0 [(.iconst 0, 1), (.istore_n 1, 1), (.iconst 0, 1), (.istore_n 2, 1), (.iload_n 2, 1), (.iconst 4, 1), (.if_icmp .ge (25), 3), (.aload_n 0, 1), (.iload_n 2, 1), (.invokevirtual 22, 3), (.lconst 0, 1), (.lcmp, 1), (.ifCond .le (9), 3), (.iload_n 1, 1), (.iconst 1, 1), (.iload_n 2, 1), (.ishl, 1), (.ior, 1), (.istore_n 1, 1), (.iinc 2 (1), 3), (.goto (-24), 3), (.iload_n 1, 1), (.ireturn, 1)] := Jvm.Free.DS.facts 0 _ (by decide +kernel) (by decide +kernel)
theorem d_Quad_leftTurns_0 : decode prog_7_method_4_code 0 = .ok (.iconst 0, 1) := F_Quad_leftTurns_0.1
theorem d_Quad_leftTurns_1 : decode prog_7_method_4_code 1 = .ok (.istore_n 1, 1) := F_Quad_leftTurns_0.2.1
theorem d_Quad_leftTurns_2 : decode prog_7_method_4_code 2 = .ok (.iconst 0, 1) := F_Quad_leftTurns_0.2.2.1
theorem d_Quad_leftTurns_3 : decode prog_7_method_4_code 3 = .ok (.istore_n 2, 1) := F_Quad_leftTurns_0.2.2.2.1
theorem d_Quad_leftTurns_4 : decode prog_7_method_4_code 4 = .ok (.iload_n 2, 1) := F_Quad_leftTurns_0.2.2.2.2.1
theorem d_Quad_leftTurns_5 : decode prog_7_method_4_code 5 = .ok (.iconst 4, 1) := F_Quad_leftTurns_0.2.2.2.2.2.1
theorem d_Quad_leftTurns_6 : decode prog_7_method_4_code 6 = .ok (.if_icmp .ge (25), 3) := F_Quad_leftTurns_0.2.2.2.2.2.2.1
theorem d_Quad_leftTurns_9 : decode prog_7_method_4_code 9 = .ok (.aload_n 0, 1) := F_Quad_leftTurns_0.2.2.2.2.2.2.2.1
theorem d_Quad_leftTurns_10 : decode prog_7_method_4_code 10 = .ok (.iload_n 2, 1) := F_Quad_leftTurns_0.2.2.2.2.2.2.2.2.1
theorem d_Quad_leftTurns_11 : decode prog_7_method_4_code 11 = .ok (.invokevirtual 22, 3) := F_Quad_leftTurns_0.2.2.2.2.2.2.2.2.2.1
theorem d_Quad_leftTurns_14 : decode prog_7_method_4_code 14 = .ok (.lconst 0, 1) := F_Quad_leftTurns_0.2.2.2.2.2.2.2.2.2.2.1
theorem d_Quad_leftTurns_15 : decode prog_7_method_4_code 15 = .ok (.lcmp, 1) := F_Quad_leftTurns_0.2.2.2.2.2.2.2.2.2.2.2.1
theorem d_Quad_leftTurns_16 : decode prog_7_method_4_code 16 = .ok (.ifCond .le (9), 3) := F_Quad_leftTurns_0.2.2.2.2.2.2.2.2.2.2.2.2.1
theorem d_Quad_leftTurns_19 : decode prog_7_method_4_code 19 = .ok (.iload_n 1, 1) := F_Quad_leftTurns_0.2.2.2.2.2.2.2.2.2.2.2.2.2.1
theorem d_Quad_leftTurns_20 : decode prog_7_method_4_code 20 = .ok (.iconst 1, 1) := F_Quad_leftTurns_0.2.2.2.2.2.2.2.2.2.2.2.2.2.2.1
theorem d_Quad_leftTurns_21 : decode prog_7_method_4_code 21 = .ok (.iload_n 2, 1) := F_Quad_leftTurns_0.2.2.2.2.2.2.2.2.2.2.2.2.2.2.2.1
theorem d_Quad_leftTurns_22 : decode prog_7_method_4_code 22 = .ok (.ishl, 1) := F_Quad_leftTurns_0.2.2.2.2.2.2.2.2.2.2.2.2.2.2.2.2.1
theorem d_Quad_leftTurns_23 : decode prog_7_method_4_code 23 = .ok (.ior, 1) := F_Quad_leftTurns_0.2.2.2.2.2.2.2.2.2.2.2.2.2.2.2.2.2.1
theorem d_Quad_leftTurns_24 : decode prog_7_method_4_code 24 = .ok (.istore_n 1, 1) := F_Quad_leftTurns_0.2.2.2.2.2.2.2.2.2.2.2.2.2.2.2.2.2.2.1
theorem d_Quad_leftTurns_25 : decode prog_7_method_4_code 25 = .ok (.iinc 2 (1), 3) := F_Quad_leftTurns_0.2.2.2.2.2.2.2.2.2.2.2.2.2.2.2.2.2.2.2.1
theorem d_Quad_leftTurns_28 : decode prog_7_method_4_code 28 = .ok (.goto (-24), 3) := F_Quad_leftTurns_0.2.2.2.2.2.2.2.2.2.2.2.2.2.2.2.2.2.2.2.2.1
theorem d_Quad_leftTurns_31 : decode prog_7_method_4_code 31 = .ok (.iload_n 1, 1) := F_Quad_leftTurns_0.2.2.2.2.2.2.2.2.2.2.2.2.2.2.2.2.2.2.2.2.2.1
theorem d_Quad_leftTurns_32 : decode prog_7_method_4_code 32 = .ok (.ireturn, 1) := F_Quad_leftTurns_0.2.2.2.2.2.2.2.2.2.2.2.2.2.2.2.2.2.2.2.2.2.2.1
theorem F_Quad_formOf_0 : Jvm.Free.DS.Facts prog_7_method_6_code 0 [(.iload_n 0, 1), (.invokestatic 36, 3), (.istore_n 1, 1), (.iload_n 1, 1), (.iconst 2, 1), (.if_icmp .ne (5), 3), (.iconst 2, 1), (.ireturn, 1), (.iload_n 1, 1), (.ifCond .eq (8), 3), (.iload_n 1, 1), (.iconst 4, 1), (.if_icmp .ne (7), 3), (.iconst 0, 1), (.goto (4), 3), (.iconst 1, 1), (.ireturn, 1)] := Jvm.Free.DS.facts 0 _ (by decide +kernel) (by decide +kernel)
theorem d_Quad_formOf_0 : decode prog_7_method_6_code 0 = .ok (.iload_n 0, 1) := F_Quad_formOf_0.1
theorem d_Quad_formOf_1 : decode prog_7_method_6_code 1 = .ok (.invokestatic 36, 3) := F_Quad_formOf_0.2.1
theorem d_Quad_formOf_4 : decode prog_7_method_6_code 4 = .ok (.istore_n 1, 1) := F_Quad_formOf_0.2.2.1
theorem d_Quad_formOf_5 : decode prog_7_method_6_code 5 = .ok (.iload_n 1, 1) := F_Quad_formOf_0.2.2.2.1
theorem d_Quad_formOf_6 : decode prog_7_method_6_code 6 = .ok (.iconst 2, 1) := F_Quad_formOf_0.2.2.2.2.1
theorem d_Quad_formOf_7 : decode prog_7_method_6_code 7 = .ok (.if_icmp .ne (5), 3) := F_Quad_formOf_0.2.2.2.2.2.1
theorem d_Quad_formOf_10 : decode prog_7_method_6_code 10 = .ok (.iconst 2, 1) := F_Quad_formOf_0.2.2.2.2.2.2.1
theorem d_Quad_formOf_11 : decode prog_7_method_6_code 11 = .ok (.ireturn, 1) := F_Quad_formOf_0.2.2.2.2.2.2.2.1
theorem d_Quad_formOf_12 : decode prog_7_method_6_code 12 = .ok (.iload_n 1, 1) := F_Quad_formOf_0.2.2.2.2.2.2.2.2.1
theorem d_Quad_formOf_13 : decode prog_7_method_6_code 13 = .ok (.ifCond .eq (8), 3) := F_Quad_formOf_0.2.2.2.2.2.2.2.2.2.1
theorem d_Quad_formOf_16 : decode prog_7_method_6_code 16 = .ok (.iload_n 1, 1) := F_Quad_formOf_0.2.2.2.2.2.2.2.2.2.2.1
theorem d_Quad_formOf_17 : decode prog_7_method_6_code 17 = .ok (.iconst 4, 1) := F_Quad_formOf_0.2.2.2.2.2.2.2.2.2.2.2.1
theorem d_Quad_formOf_18 : decode prog_7_method_6_code 18 = .ok (.if_icmp .ne (7), 3) := F_Quad_formOf_0.2.2.2.2.2.2.2.2.2.2.2.2.1
theorem d_Quad_formOf_21 : decode prog_7_method_6_code 21 = .ok (.iconst 0, 1) := F_Quad_formOf_0.2.2.2.2.2.2.2.2.2.2.2.2.2.1
theorem d_Quad_formOf_22 : decode prog_7_method_6_code 22 = .ok (.goto (4), 3) := F_Quad_formOf_0.2.2.2.2.2.2.2.2.2.2.2.2.2.2.1
theorem d_Quad_formOf_25 : decode prog_7_method_6_code 25 = .ok (.iconst 1, 1) := F_Quad_formOf_0.2.2.2.2.2.2.2.2.2.2.2.2.2.2.2.1
theorem d_Quad_formOf_26 : decode prog_7_method_6_code 26 = .ok (.ireturn, 1) := F_Quad_formOf_0.2.2.2.2.2.2.2.2.2.2.2.2.2.2.2.2.1
theorem F_CM_dent_0 : Jvm.Free.DS.Facts prog_1_method_9_code 0 [(.aload_n 0, 1), (.getfield 12, 3), (.iload_n 1, 1), (.invokevirtual 127, 3), (.ifCond .ne (5), 3), (.iconst (-1), 1), (.ireturn, 1), (.aload_n 0, 1), (.getfield 12, 3), (.getfield 142, 3), (.iload_n 1, 1), (.aaload, 1), (.invokevirtual 166, 3), (.istore_n 2, 1), (.iload_n 2, 1), (.invokestatic 170, 3), (.iconst 1, 1), (.if_icmp .eq (6), 3), (.bipush (-2), 2), (.ireturn, 1), (.iload_n 2, 1), (.invokestatic 174, 3), (.iconst 1, 1), (.if_icmp .ne (7), 3), (.iload_n 2, 1), (.goto (7), 3), (.bipush (15), 2), (.iload_n 2, 1), (.isub, 1), (.istore_n 3, 1), (.iconst 0, 1), (.istore 4, 2)] := Jvm.Free.DS.facts 0 _ (by decide +kernel) (by decide +kernel)
theorem d_CM_dent_0 : decode prog_1_method_9_code 0 = .ok (.aload_n 0, 1) := F_CM_dent_0.1
theorem d_CM_dent_1 : decode prog_1_method_9_code 1 = .ok (.getfield 12, 3) := F_CM_dent_0.2.1
theorem d_CM_dent_4 : decode prog_1_method_9_code 4 = .ok (.iload_n 1, 1) := F_CM_dent_0.2.2.1
theorem d_CM_dent_5 : decode prog_1_method_9_code 5 = .ok (.invokevirtual 127, 3) := F_CM_dent_0.2.2.2.1
theorem d_CM_dent_8 : decode prog_1_method_9_code 8 = .ok (.ifCond .ne (5), 3) := F_CM_dent_0.2.2.2.2.1
theorem d_CM_dent_11 : decode prog_1_method_9_code 11 = .ok (.iconst (-1), 1) := F_CM_dent_0.2.2.2.2.2.1
theorem d_CM_dent_12 : decode prog_1_method_9_code 12 = .ok (.ireturn, 1) := F_CM_dent_0.2.2.2.2.2.2.1
theorem d_CM_dent_13 : decode prog_1_method_9_code 13 = .ok (.aload_n 0, 1) := F_CM_dent_0.2.2.2.2.2.2.2.1
theorem d_CM_dent_14 : decode prog_1_method_9_code 14 = .ok (.getfield 12, 3) := F_CM_dent_0.2.2.2.2.2.2.2.2.1
theorem d_CM_dent_17 : decode prog_1_method_9_code 17 = .ok (.getfield 142, 3) := F_CM_dent_0.2.2.2.2.2.2.2.2.2.1
theorem d_CM_dent_20 : decode prog_1_method_9_code 20 = .ok (.iload_n 1, 1) := F_CM_dent_0.2.2.2.2.2.2.2.2.2.2.1
theorem d_CM_dent_21 : decode prog_1_method_9_code 21 = .ok (.aaload, 1) := F_CM_dent_0.2.2.2.2.2.2.2.2.2.2.2.1
theorem d_CM_dent_22 : decode prog_1_method_9_code 22 = .ok (.invokevirtual 166, 3) := F_CM_dent_0.2.2.2.2.2.2.2.2.2.2.2.2.1
theorem d_CM_dent_25 : decode prog_1_method_9_code 25 = .ok (.istore_n 2, 1) := F_CM_dent_0.2.2.2.2.2.2.2.2.2.2.2.2.2.1
theorem d_CM_dent_26 : decode prog_1_method_9_code 26 = .ok (.iload_n 2, 1) := F_CM_dent_0.2.2.2.2.2.2.2.2.2.2.2.2.2.2.1
theorem d_CM_dent_27 : decode prog_1_method_9_code 27 = .ok (.invokestatic 170, 3) := F_CM_dent_0.2.2.2.2.2.2.2.2.2.2.2.2.2.2.2.1
theorem d_CM_dent_30 : decode prog_1_method_9_code 30 = .ok (.iconst 1, 1) := F_CM_dent_0.2.2.2.2.2.2.2.2.2.2.2.2.2.2.2.2.1
theorem d_CM_dent_31 : decode prog_1_method_9_code 31 = .ok (.if_icmp .eq (6), 3) := F_CM_dent_0.2.2.2.2.2.2.2.2.2.2.2.2.2.2.2.2.2.1
theorem d_CM_dent_34 : decode prog_1_method_9_code 34 = .ok (.bipush (-2), 2) := F_CM_dent_0.2.2.2.2.2.2.2.2.2.2.2.2.2.2.2.2.2.2.1
theorem d_CM_dent_36 : decode prog_1_method_9_code 36 = .ok (.ireturn, 1) := F_CM_dent_0.2.2.2.2.2.2.2.2.2.2.2.2.2.2.2.2.2.2.2.1
theorem d_CM_dent_37 : decode prog_1_method_9_code 37 = .ok (.iload_n 2, 1) := F_CM_dent_0.2.2.2.2.2.2.2.2.2.2.2.2.2.2.2.2.2.2.2.2.1
theorem d_CM_dent_38 : decode prog_1_method_9_code 38 = .ok (.invokestatic 174, 3) := F_CM_dent_0.2.2.2.2.2.2.2.2.2.2.2.2.2.2.2.2.2.2.2.2.2.1
theorem d_CM_dent_41 : decode prog_1_method_9_code 41 = .ok (.iconst 1, 1) := F_CM_dent_0.2.2.2.2.2.2.2.2.2.2.2.2.2.2.2.2.2.2.2.2.2.2.1
theorem d_CM_dent_42 : decode prog_1_method_9_code 42 = .ok (.if_icmp .ne (7), 3) := F_CM_dent_0.2.2.2.2.2.2.2.2.2.2.2.2.2.2.2.2.2.2.2.2.2.2.2.1
theorem d_CM_dent_45 : decode prog_1_method_9_code 45 = .ok (.iload_n 2, 1) := F_CM_dent_0.2.2.2.2.2.2.2.2.2.2.2.2.2.2.2.2.2.2.2.2.2.2.2.2.1
theorem d_CM_dent_46 : decode prog_1_method_9_code 46 = .ok (.goto (7), 3) := F_CM_dent_0.2.2.2.2.2.2.2.2.2.2.2.2.2.2.2.2.2.2.2.2.2.2.2.2.2.1
theorem d_CM_dent_49 : decode prog_1_method_9_code 49 = .ok (.bipush (15), 2) := F_CM_dent_0.2.2.2.2.2.2.2.2.2.2.2.2.2.2.2.2.2.2.2.2.2.2.2.2.2.2.1
theorem d_CM_dent_51 : decode prog_1_method_9_code 51 = .ok (.iload_n 2, 1) := F_CM_dent_0.2.2.2.2.2.2.2.2.2.2.2.2.2.2.2.2.2.2.2.2.2.2.2.2.2.2.2.1
theorem d_CM_dent_52 : decode prog_1_method_9_code 52 = .ok (.isub, 1) := F_CM_dent_0.2.2.2.2.2.2.2.2.2.2.2.2.2.2.2.2.2.2.2.2.2.2.2.2.2.2.2.2.1
theorem d_CM_dent_53 : decode prog_1_method_9_code 53 = .ok (.istore_n 3, 1) := F_CM_dent_0.2.2.2.2.2.2.2.2.2.2.2.2.2.2.2.2.2.2.2.2.2.2.2.2.2.2.2.2.2.1
theorem d_CM_dent_54 : decode prog_1_method_9_code 54 = .ok (.iconst 0, 1) := F_CM_dent_0.2.2.2.2.2.2.2.2.2.2.2.2.2.2.2.2.2.2.2.2.2.2.2.2.2.2.2.2.2.2.1
theorem d_CM_dent_55 : decode prog_1_method_9_code 55 = .ok (.istore 4, 2) := F_CM_dent_0.2.2.2.2.2.2.2.2.2.2.2.2.2.2.2.2.2.2.2.2.2.2.2.2.2.2.2.2.2.2.2.1
theorem F_CM_dent_57 : Jvm.Free.DS.Facts prog_1_method_9_code 57 [(.iload 4, 2), (.iconst 3, 1), (.if_icmp .ge (20), 3), (.iload_n 3, 1), (.iconst 1, 1), (.iload 4, 2), (.ishl, 1), (.if_icmp .ne (6), 3), (.iload 4, 2), (.ireturn, 1), (.iinc 4 (1), 3), (.goto (-20), 3), (.iconst 3, 1), (.ireturn, 1)] := Jvm.Free.DS.facts 57 _ (by decide +kernel) (by decide +kernel)
theorem d_CM_dent_57 : decode prog_1_method_9_code 57 = .ok (.iload 4, 2) := F_CM_dent_57.1
theorem d_CM_dent_59 : decode prog_1_method_9_code 59 = .ok (.iconst 3, 1) := F_CM_dent_57.2.1
theorem d_CM_dent_60 : decode prog_1_method_9_code 60 = .ok (.if_icmp .ge (20), 3) := F_CM_dent_57.2.2.1
theorem d_CM_dent_63 : decode prog_1_method_9_code 63 = .ok (.iload_n 3, 1) := F_CM_dent_57.2.2.2.1
theorem d_CM_dent_64 : decode prog_1_method_9_code 64 = .ok (.iconst 1, 1) := F_CM_dent_57.2.2.2.2.1
theorem d_CM_dent_65 : decode prog_1_method_9_code 65 = .ok (.iload 4, 2) := F_CM_dent_57.2.2.2.2.2.1
theorem d_CM_dent_67 : decode prog_1_method_9_code 67 = .ok (.ishl, 1) := F_CM_dent_57.2.2.2.2.2.2.1
theorem d_CM_dent_68 : decode prog_1_method_9_code 68 = .ok (.if_icmp .ne (6), 3) := F_CM_dent_57.2.2.2.2.2.2.2.1
theorem d_CM_dent_71 : decode prog_1_method_9_code 71 = .ok (.iload 4, 2) := F_CM_dent_57.2.2.2.2.2.2.2.2.1
theorem d_CM_dent_73 : decode prog_1_method_9_code 73 = .ok (.ireturn, 1) := F_CM_dent_57.2.2.2.2.2.2.2.2.2.1
theorem d_CM_dent_74 : decode prog_1_method_9_code 74 = .ok (.iinc 4 (1), 3) := F_CM_dent_57.2.2.2.2.2.2.2.2.2.2.1
theorem d_CM_dent_77 : decode prog_1_method_9_code 77 = .ok (.goto (-20), 3) := F_CM_dent_57.2.2.2.2.2.2.2.2.2.2.2.1
theorem d_CM_dent_80 : decode prog_1_method_9_code 80 = .ok (.iconst 3, 1) := F_CM_dent_57.2.2.2.2.2.2.2.2.2.2.2.2.1
theorem d_CM_dent_81 : decode prog_1_method_9_code 81 = .ok (.ireturn, 1) := F_CM_dent_57.2.2.2.2.2.2.2.2.2.2.2.2.2.1
theorem F_CM_area_0 : Jvm.Free.DS.Facts prog_1_method_10_code 0 [(.aload_n 0, 1), (.getfield 12, 3), (.iload_n 1, 1), (.invokevirtual 127, 3), (.ifCond .eq (19), 3), (.aload_n 0, 1), (.getfield 12, 3), (.getfield 142, 3), (.iload_n 1, 1), (.aaload, 1), (.invokevirtual 179, 3), (.l2i, 1), (.goto (5), 3), (.ldc 183, 2), (.ireturn, 1)] := Jvm.Free.DS.facts 0 _ (by decide +kernel) (by decide +kernel)
theorem d_CM_area_0 : decode prog_1_method_10_code 0 = .ok (.aload_n 0, 1) := F_CM_area_0.1
theorem d_CM_area_1 : decode prog_1_method_10_code 1 = .ok (.getfield 12, 3) := F_CM_area_0.2.1
theorem d_CM_area_4 : decode prog_1_method_10_code 4 = .ok (.iload_n 1, 1) := F_CM_area_0.2.2.1
theorem d_CM_area_5 : decode prog_1_method_10_code 5 = .ok (.invokevirtual 127, 3) := F_CM_area_0.2.2.2.1
theorem d_CM_area_8 : decode prog_1_method_10_code 8 = .ok (.ifCond .eq (19), 3) := F_CM_area_0.2.2.2.2.1
theorem d_CM_area_11 : decode prog_1_method_10_code 11 = .ok (.aload_n 0, 1) := F_CM_area_0.2.2.2.2.2.1
theorem d_CM_area_12 : decode prog_1_method_10_code 12 = .ok (.getfield 12, 3) := F_CM_area_0.2.2.2.2.2.2.1
theorem d_CM_area_15 : decode prog_1_method_10_code 15 = .ok (.getfield 142, 3) := F_CM_area_0.2.2.2.2.2.2.2.1
theorem d_CM_area_18 : decode prog_1_method_10_code 18 = .ok (.iload_n 1, 1) := F_CM_area_0.2.2.2.2.2.2.2.2.1
theorem d_CM_area_19 : decode prog_1_method_10_code 19 = .ok (.aaload, 1) := F_CM_area_0.2.2.2.2.2.2.2.2.2.1
theorem d_CM_area_20 : decode prog_1_method_10_code 20 = .ok (.invokevirtual 179, 3) := F_CM_area_0.2.2.2.2.2.2.2.2.2.2.1
theorem d_CM_area_23 : decode prog_1_method_10_code 23 = .ok (.l2i, 1) := F_CM_area_0.2.2.2.2.2.2.2.2.2.2.2.1
theorem d_CM_area_24 : decode prog_1_method_10_code 24 = .ok (.goto (5), 3) := F_CM_area_0.2.2.2.2.2.2.2.2.2.2.2.2.1
theorem d_CM_area_27 : decode prog_1_method_10_code 27 = .ok (.ldc 183, 2) := F_CM_area_0.2.2.2.2.2.2.2.2.2.2.2.2.2.1
theorem d_CM_area_29 : decode prog_1_method_10_code 29 = .ok (.ireturn, 1) := F_CM_area_0.2.2.2.2.2.2.2.2.2.2.2.2.2.2.1
theorem F_Quad_doubledArea_0 : Jvm.Free.DS.Facts prog_7_method_7_code 0 [(.lconst 0, 1), (.lstore_n 1, 1), (.iconst 0, 1), (.istore_n 3, 1), (.iload_n 3, 1), (.iconst 4, 1), (.if_icmp .ge (51), 3), (.aload_n 0, 1), (.getfield 11, 3), (.iload_n 3, 1), (.aaload, 1), (.astore 4, 2), (.aload_n 0, 1), (.getfield 11, 3), (.iload_n 3, 1), (.iconst 1, 1), (.iadd, 1), (.iconst 3, 1), (.iand, 1), (.aaload, 1), (.astore 5, 2), (.lload_n 1, 1), (.aload 4, 2), (.iconst 0, 1), (.laload, 1), (.aload 5, 2), (.iconst 1, 1), (.laload, 1), (.lmul, 1), (.aload 4, 2), (.iconst 1, 1), (.laload, 1)] := Jvm.Free.DS.facts 0 _ (by decide +kernel) (by decide +kernel)
theorem d_Quad_doubledArea_0 : decode prog_7_method_7_code 0 = .ok (.lconst 0, 1) := F_Quad_doubledArea_0.1
theorem d_Quad_doubledArea_1 : decode prog_7_method_7_code 1 = .ok (.lstore_n 1, 1) := F_Quad_doubledArea_0.2.1
theorem d_Quad_doubledArea_2 : decode prog_7_method_7_code 2 = .ok (.iconst 0, 1) := F_Quad_doubledArea_0.2.2.1
theorem d_Quad_doubledArea_3 : decode prog_7_method_7_code 3 = .ok (.istore_n 3, 1) := F_Quad_doubledArea_0.2.2.2.1
theorem d_Quad_doubledArea_4 : decode prog_7_method_7_code 4 = .ok (.iload_n 3, 1) := F_Quad_doubledArea_0.2.2.2.2.1
theorem d_Quad_doubledArea_5 : decode prog_7_method_7_code 5 = .ok (.iconst 4, 1) := F_Quad_doubledArea_0.2.2.2.2.2.1
theorem d_Quad_doubledArea_6 : decode prog_7_method_7_code 6 = .ok (.if_icmp .ge (51), 3) := F_Quad_doubledArea_0.2.2.2.2.2.2.1
theorem d_Quad_doubledArea_9 : decode prog_7_method_7_code 9 = .ok (.aload_n 0, 1) := F_Quad_doubledArea_0.2.2.2.2.2.2.2.1
theorem d_Quad_doubledArea_10 : decode prog_7_method_7_code 10 = .ok (.getfield 11, 3) := F_Quad_doubledArea_0.2.2.2.2.2.2.2.2.1
theorem d_Quad_doubledArea_13 : decode prog_7_method_7_code 13 = .ok (.iload_n 3, 1) := F_Quad_doubledArea_0.2.2.2.2.2.2.2.2.2.1
theorem d_Quad_doubledArea_14 : decode prog_7_method_7_code 14 = .ok (.aaload, 1) := F_Quad_doubledArea_0.2.2.2.2.2.2.2.2.2.2.1
theorem d_Quad_doubledArea_15 : decode prog_7_method_7_code 15 = .ok (.astore 4, 2) := F_Quad_doubledArea_0.2.2.2.2.2.2.2.2.2.2.2.1
theorem d_Quad_doubledArea_17 : decode prog_7_method_7_code 17 = .ok (.aload_n 0, 1) := F_Quad_doubledArea_0.2.2.2.2.2.2.2.2.2.2.2.2.1
theorem d_Quad_doubledArea_18 : decode prog_7_method_7_code 18 = .ok (.getfield 11, 3) := F_Quad_doubledArea_0.2.2.2.2.2.2.2.2.2.2.2.2.2.1
theorem d_Quad_doubledArea_21 : decode prog_7_method_7_code 21 = .ok (.iload_n 3, 1) := F_Quad_doubledArea_0.2.2.2.2.2.2.2.2.2.2.2.2.2.2.1
theorem d_Quad_doubledArea_22 : decode prog_7_method_7_code 22 = .ok (.iconst 1, 1) := F_Quad_doubledArea_0.2.2.2.2.2.2.2.2.2.2.2.2.2.2.2.1
theorem d_Quad_doubledArea_23 : decode prog_7_method_7_code 23 = .ok (.iadd, 1) := F_Quad_doubledArea_0.2.2.2.2.2.2.2.2.2.2.2.2.2.2.2.2.1
theorem d_Quad_doubledArea_24 : decode prog_7_method_7_code 24 = .ok (.iconst 3, 1) := F_Quad_doubledArea_0.2.2.2.2.2.2.2.2.2.2.2.2.2.2.2.2.2.1
theorem d_Quad_doubledArea_25 : decode prog_7_method_7_code 25 = .ok (.iand, 1) := F_Quad_doubledArea_0.2.2.2.2.2.2.2.2.2.2.2.2.2.2.2.2.2.2.1
theorem d_Quad_doubledArea_26 : decode prog_7_method_7_code 26 = .ok (.aaload, 1) := F_Quad_doubledArea_0.2.2.2.2.2.2.2.2.2.2.2.2.2.2.2.2.2.2.2.1
theorem d_Quad_doubledArea_27 : decode prog_7_method_7_code 27 = .ok (.astore 5, 2) := F_Quad_doubledArea_0.2.2.2.2.2.2.2.2.2.2.2.2.2.2.2.2.2.2.2.2.1
theorem d_Quad_doubledArea_29 : decode prog_7_method_7_code 29 = .ok (.lload_n 1, 1) := F_Quad_doubledArea_0.2.2.2.2.2.2.2.2.2.2.2.2.2.2.2.2.2.2.2.2.2.1
theorem d_Quad_doubledArea_30 : decode prog_7_method_7_code 30 = .ok (.aload 4, 2) := F_Quad_doubledArea_0.2.2.2.2.2.2.2.2.2.2.2.2.2.2.2.2.2.2.2.2.2.2.1
theorem d_Quad_doubledArea_32 : decode prog_7_method_7_code 32 = .ok (.iconst 0, 1) := F_Quad_doubledArea_0.2.2.2.2.2.2.2.2.2.2.2.2.2.2.2.2.2.2.2.2.2.2.2.1
theorem d_Quad_doubledArea_33 : decode prog_7_method_7_code 33 = .ok (.laload, 1) := F_Quad_doubledArea_0.2.2.2.2.2.2.2.2.2.2.2.2.2.2.2.2.2.2.2.2.2.2.2.2.1
theorem d_Quad_doubledArea_34 : decode prog_7_method_7_code 34 = .ok (.aload 5, 2) := F_Quad_doubledArea_0.2.2.2.2.2.2.2.2.2.2.2.2.2.2.2.2.2.2.2.2.2.2.2.2.2.1
theorem d_Quad_doubledArea_36 : decode prog_7_method_7_code 36 = .ok (.iconst 1, 1) := F_Quad_doubledArea_0.2.2.2.2.2.2.2.2.2.2.2.2.2.2.2.2.2.2.2.2.2.2.2.2.2.2.1
theorem d_Quad_doubledArea_37 : decode prog_7_method_7_code 37 = .ok (.laload, 1) := F_Quad_doubledArea_0.2.2.2.2.2.2.2.2.2.2.2.2.2.2.2.2.2.2.2.2.2.2.2.2.2.2.2.1
theorem d_Quad_doubledArea_38 : decode prog_7_method_7_code 38 = .ok (.lmul, 1) := F_Quad_doubledArea_0.2.2.2.2.2.2.2.2.2.2.2.2.2.2.2.2.2.2.2.2.2.2.2.2.2.2.2.2.1
theorem d_Quad_doubledArea_39 : decode prog_7_method_7_code 39 = .ok (.aload 4, 2) := F_Quad_doubledArea_0.2.2.2.2.2.2.2.2.2.2.2.2.2.2.2.2.2.2.2.2.2.2.2.2.2.2.2.2.2.1
theorem d_Quad_doubledArea_41 : decode prog_7_method_7_code 41 = .ok (.iconst 1, 1) := F_Quad_doubledArea_0.2.2.2.2.2.2.2.2.2.2.2.2.2.2.2.2.2.2.2.2.2.2.2.2.2.2.2.2.2.2.1
theorem d_Quad_doubledArea_42 : decode prog_7_method_7_code 42 = .ok (.laload, 1) := F_Quad_doubledArea_0.2.2.2.2.2.2.2.2.2.2.2.2.2.2.2.2.2.2.2.2.2.2.2.2.2.2.2.2.2.2.2.1
theorem F_Quad_doubledArea_43 : Jvm.Free.DS.Facts prog_7_method_7_code 43 [(.aload 5, 2), (.iconst 0, 1), (.laload, 1), (.lmul, 1), (.lsub, 1), (.ladd, 1), (.lstore_n 1, 1), (.iinc 3 (1), 3), (.goto (-50), 3), (.lload_n 1, 1), (.lreturn, 1)] := Jvm.Free.DS.facts 43 _ (by decide +kernel) (by decide +kernel)
theorem d_Quad_doubledArea_43 : decode prog_7_method_7_code 43 = .ok (.aload 5, 2) := F_Quad_doubledArea_43.1
theorem d_Quad_doubledArea_45 : decode prog_7_method_7_code 45 = .ok (.iconst 0, 1) := F_Quad_doubledArea_43.2.1
theorem d_Quad_doubledArea_46 : decode prog_7_method_7_code 46 = .ok (.laload, 1) := F_Quad_doubledArea_43.2.2.1
theorem d_Quad_doubledArea_47 : decode prog_7_method_7_code 47 = .ok (.lmul, 1) := F_Quad_doubledArea_43.2.2.2.1
theorem d_Quad_doubledArea_48 : decode prog_7_method_7_code 48 = .ok (.lsub, 1) := F_Quad_doubledArea_43.2.2.2.2.1
theorem d_Quad_doubledArea_49 : decode prog_7_method_7_code 49 = .ok (.ladd, 1) := F_Quad_doubledArea_43.2.2.2.2.2.1
theorem d_Quad_doubledArea_50 : decode prog_7_method_7_code 50 = .ok (.lstore_n 1, 1) := F_Quad_doubledArea_43.2.2.2.2.2.2.1
theorem d_Quad_doubledArea_51 : decode prog_7_method_7_code 51 = .ok (.iinc 3 (1), 3) := F_Quad_doubledArea_43.2.2.2.2.2.2.2.1
theorem d_Quad_doubledArea_54 : decode prog_7_method_7_code 54 = .ok (.goto (-50), 3) := F_Quad_doubledArea_43.2.2.2.2.2.2.2.2.1
theorem d_Quad_doubledArea_57 : decode prog_7_method_7_code 57 = .ok (.lload_n 1, 1) := F_Quad_doubledArea_43.2.2.2.2.2.2.2.2.2.1
theorem d_Quad_doubledArea_58 : decode prog_7_method_7_code 58 = .ok (.lreturn, 1) := F_Quad_doubledArea_43.2.2.2.2.2.2.2.2.2.2.1
theorem F_CM_make_0 : Jvm.Free.DS.Facts prog_1_method_11_code 0 [(.aload_n 0, 1), (.getfield 12, 3), (.iload_n 1, 1), (.invokevirtual 127, 3), (.ifCond .eq (14), 3), (.aload_n 0, 1), (.getfield 12, 3), (.iload_n 2, 1), (.invokevirtual 127, 3), (.ifCond .ne (5), 3), (.iconst (-1), 1), (.ireturn, 1), (.aload_n 0, 1), (.getfield 31, 3), (.aload_n 0, 1), (.getfield 12, 3), (.getfield 142, 3), (.iload_n 1, 1), (.aaload, 1), (.aload_n 0, 1), (.getfield 12, 3), (.getfield 142, 3), (.iload_n 2, 1), (.aaload, 1), (.iconst 0, 1), (.aload_n 0, 1), (.getfield 65, 3), (.invokevirtual 184, 3), (.aload_n 0, 1), (.aload_n 0, 1), (.getfield 65, 3), (.invokevirtual 188, 3)] := Jvm.Free.DS.facts 0 _ (by decide +kernel) (by decide +kernel)
theorem d_CM_make_0 : decode prog_1_method_11_code 0 = .ok (.aload_n 0, 1) := F_CM_make_0.1
theorem d_CM_make_1 : decode prog_1_method_11_code 1 = .ok (.getfield 12, 3) := F_CM_make_0.2.1
theorem d_CM_make_4 : decode prog_1_method_11_code 4 = .ok (.iload_n 1, 1) := F_CM_make_0.2.2.1
theorem d_CM_make_5 : decode prog_1_method_11_code 5 = .ok (.invokevirtual 127, 3) := F_CM_make_0.2.2.2.1
theorem d_CM_make_8 : decode prog_1_method_11_code 8 = .ok (.ifCond .eq (14), 3) := F_CM_make_0.2.2.2.2.1
theorem d_CM_make_11 : decode prog_1_method_11_code 11 = .ok (.aload_n 0, 1) := F_CM_make_0.2.2.2.2.2.1
theorem d_CM_make_12 : decode prog_1_method_11_code 12 = .ok (.getfield 12, 3) := F_CM_make_0.2.2.2.2.2.2.1
theorem d_CM_make_15 : decode prog_1_method_11_code 15 = .ok (.iload_n 2, 1) := F_CM_make_0.2.2.2.2.2.2.2.1
theorem d_CM_make_16 : decode prog_1_method_11_code 16 = .ok (.invokevirtual 127, 3) := F_CM_make_0.2.2.2.2.2.2.2.2.1
theorem d_CM_make_19 : decode prog_1_method_11_code 19 = .ok (.ifCond .ne (5), 3) := F_CM_make_0.2.2.2.2.2.2.2.2.2.1
theorem d_CM_make_22 : decode prog_1_method_11_code 22 = .ok (.iconst (-1), 1) := F_CM_make_0.2.2.2.2.2.2.2.2.2.2.1
theorem d_CM_make_23 : decode prog_1_method_11_code 23 = .ok (.ireturn, 1) := F_CM_make_0.2.2.2.2.2.2.2.2.2.2.2.1
theorem d_CM_make_24 : decode prog_1_method_11_code 24 = .ok (.aload_n 0, 1) := F_CM_make_0.2.2.2.2.2.2.2.2.2.2.2.2.1
theorem d_CM_make_25 : decode prog_1_method_11_code 25 = .ok (.getfield 31, 3) := F_CM_make_0.2.2.2.2.2.2.2.2.2.2.2.2.2.1
theorem d_CM_make_28 : decode prog_1_method_11_code 28 = .ok (.aload_n 0, 1) := F_CM_make_0.2.2.2.2.2.2.2.2.2.2.2.2.2.2.1
theorem d_CM_make_29 : decode prog_1_method_11_code 29 = .ok (.getfield 12, 3) := F_CM_make_0.2.2.2.2.2.2.2.2.2.2.2.2.2.2.2.1
theorem d_CM_make_32 : decode prog_1_method_11_code 32 = .ok (.getfield 142, 3) := F_CM_make_0.2.2.2.2.2.2.2.2.2.2.2.2.2.2.2.2.1
theorem d_CM_make_35 : decode prog_1_method_11_code 35 = .ok (.iload_n 1, 1) := F_CM_make_0.2.2.2.2.2.2.2.2.2.2.2.2.2.2.2.2.2.1
theorem d_CM_make_36 : decode prog_1_method_11_code 36 = .ok (.aaload, 1) := F_CM_make_0.2.2.2.2.2.2.2.2.2.2.2.2.2.2.2.2.2.2.1
theorem d_CM_make_37 : decode prog_1_method_11_code 37 = .ok (.aload_n 0, 1) := F_CM_make_0.2.2.2.2.2.2.2.2.2.2.2.2.2.2.2.2.2.2.2.1
theorem d_CM_make_38 : decode prog_1_method_11_code 38 = .ok (.getfield 12, 3) := F_CM_make_0.2.2.2.2.2.2.2.2.2.2.2.2.2.2.2.2.2.2.2.2.1
theorem d_CM_make_41 : decode prog_1_method_11_code 41 = .ok (.getfield 142, 3) := F_CM_make_0.2.2.2.2.2.2.2.2.2.2.2.2.2.2.2.2.2.2.2.2.2.1
theorem d_CM_make_44 : decode prog_1_method_11_code 44 = .ok (.iload_n 2, 1) := F_CM_make_0.2.2.2.2.2.2.2.2.2.2.2.2.2.2.2.2.2.2.2.2.2.2.1
theorem d_CM_make_45 : decode prog_1_method_11_code 45 = .ok (.aaload, 1) := F_CM_make_0.2.2.2.2.2.2.2.2.2.2.2.2.2.2.2.2.2.2.2.2.2.2.2.1
theorem d_CM_make_46 : decode prog_1_method_11_code 46 = .ok (.iconst 0, 1) := F_CM_make_0.2.2.2.2.2.2.2.2.2.2.2.2.2.2.2.2.2.2.2.2.2.2.2.2.1
theorem d_CM_make_47 : decode prog_1_method_11_code 47 = .ok (.aload_n 0, 1) := F_CM_make_0.2.2.2.2.2.2.2.2.2.2.2.2.2.2.2.2.2.2.2.2.2.2.2.2.2.1
theorem d_CM_make_48 : decode prog_1_method_11_code 48 = .ok (.getfield 65, 3) := F_CM_make_0.2.2.2.2.2.2.2.2.2.2.2.2.2.2.2.2.2.2.2.2.2.2.2.2.2.2.1
theorem d_CM_make_51 : decode prog_1_method_11_code 51 = .ok (.invokevirtual 184, 3) := F_CM_make_0.2.2.2.2.2.2.2.2.2.2.2.2.2.2.2.2.2.2.2.2.2.2.2.2.2.2.2.1
theorem d_CM_make_54 : decode prog_1_method_11_code 54 = .ok (.aload_n 0, 1) := F_CM_make_0.2.2.2.2.2.2.2.2.2.2.2.2.2.2.2.2.2.2.2.2.2.2.2.2.2.2.2.2.1
theorem d_CM_make_55 : decode prog_1_method_11_code 55 = .ok (.aload_n 0, 1) := F_CM_make_0.2.2.2.2.2.2.2.2.2.2.2.2.2.2.2.2.2.2.2.2.2.2.2.2.2.2.2.2.2.1
theorem d_CM_make_56 : decode prog_1_method_11_code 56 = .ok (.getfield 65, 3) := F_CM_make_0.2.2.2.2.2.2.2.2.2.2.2.2.2.2.2.2.2.2.2.2.2.2.2.2.2.2.2.2.2.2.1
theorem d_CM_make_59 : decode prog_1_method_11_code 59 = .ok (.invokevirtual 188, 3) := F_CM_make_0.2.2.2.2.2.2.2.2.2.2.2.2.2.2.2.2.2.2.2.2.2.2.2.2.2.2.2.2.2.2.2.1
theorem F_CM_make_62 : Jvm.Free.DS.Facts prog_1_method_11_code 62 [(.ireturn, 1)] := Jvm.Free.DS.facts 62 _ (by decide +kernel) (by decide +kernel)
theorem d_CM_make_62 : decode prog_1_method_11_code 62 = .ok (.ireturn, 1) := F_CM_make_62.1
theorem F_CM_keepMap_0 : Jvm.Free.DS.Facts prog_1_method_85_code 0 [(.aload_n 1, 1), (.invokestatic 272, 3), (.ifCond .eq (6), 3), (.bipush (-2), 2), (.ireturn, 1), (.aload_n 0, 1), (.getfield 12, 3), (.getfield 225, 3), (.bipush (16), 2), (.if_icmp .ne (6), 3), (.bipush (-3), 2), (.ireturn, 1), (.aload_n 0, 1), (.getfield 12, 3), (.aload_n 1, 1), (.invokevirtual 446, 3), (.aload_n 0, 1), (.getfield 47, 3), (.invokevirtual 449, 3), (.aload_n 0, 1), (.getfield 12, 3), (.getfield 225, 3), (.iconst 1, 1), (.isub, 1), (.ireturn, 1)] := Jvm.Free.DS.facts 0 _ (by decide +kernel) (by decide +kernel)
theorem d_CM_keepMap_0 : decode prog_1_method_85_code 0 = .ok (.aload_n 1, 1) := F_CM_keepMap_0.1
theorem d_CM_keepMap_1 : decode prog_1_method_85_code 1 = .ok (.invokestatic 272, 3) := F_CM_keepMap_0.2.1
theorem d_CM_keepMap_4 : decode prog_1_method_85_code 4 = .ok (.ifCond .eq (6), 3) := F_CM_keepMap_0.2.2.1
theorem d_CM_keepMap_7 : decode prog_1_method_85_code 7 = .ok (.bipush (-2), 2) := F_CM_keepMap_0.2.2.2.1
theorem d_CM_keepMap_9 : decode prog_1_method_85_code 9 = .ok (.ireturn, 1) := F_CM_keepMap_0.2.2.2.2.1
theorem d_CM_keepMap_10 : decode prog_1_method_85_code 10 = .ok (.aload_n 0, 1) := F_CM_keepMap_0.2.2.2.2.2.1
theorem d_CM_keepMap_11 : decode prog_1_method_85_code 11 = .ok (.getfield 12, 3) := F_CM_keepMap_0.2.2.2.2.2.2.1
theorem d_CM_keepMap_14 : decode prog_1_method_85_code 14 = .ok (.getfield 225, 3) := F_CM_keepMap_0.2.2.2.2.2.2.2.1
theorem d_CM_keepMap_17 : decode prog_1_method_85_code 17 = .ok (.bipush (16), 2) := F_CM_keepMap_0.2.2.2.2.2.2.2.2.1
theorem d_CM_keepMap_19 : decode prog_1_method_85_code 19 = .ok (.if_icmp .ne (6), 3) := F_CM_keepMap_0.2.2.2.2.2.2.2.2.2.1
theorem d_CM_keepMap_22 : decode prog_1_method_85_code 22 = .ok (.bipush (-3), 2) := F_CM_keepMap_0.2.2.2.2.2.2.2.2.2.2.1
theorem d_CM_keepMap_24 : decode prog_1_method_85_code 24 = .ok (.ireturn, 1) := F_CM_keepMap_0.2.2.2.2.2.2.2.2.2.2.2.1
theorem d_CM_keepMap_25 : decode prog_1_method_85_code 25 = .ok (.aload_n 0, 1) := F_CM_keepMap_0.2.2.2.2.2.2.2.2.2.2.2.2.1
theorem d_CM_keepMap_26 : decode prog_1_method_85_code 26 = .ok (.getfield 12, 3) := F_CM_keepMap_0.2.2.2.2.2.2.2.2.2.2.2.2.2.1
theorem d_CM_keepMap_29 : decode prog_1_method_85_code 29 = .ok (.aload_n 1, 1) := F_CM_keepMap_0.2.2.2.2.2.2.2.2.2.2.2.2.2.2.1
theorem d_CM_keepMap_30 : decode prog_1_method_85_code 30 = .ok (.invokevirtual 446, 3) := F_CM_keepMap_0.2.2.2.2.2.2.2.2.2.2.2.2.2.2.2.1
theorem d_CM_keepMap_33 : decode prog_1_method_85_code 33 = .ok (.aload_n 0, 1) := F_CM_keepMap_0.2.2.2.2.2.2.2.2.2.2.2.2.2.2.2.2.1
theorem d_CM_keepMap_34 : decode prog_1_method_85_code 34 = .ok (.getfield 47, 3) := F_CM_keepMap_0.2.2.2.2.2.2.2.2.2.2.2.2.2.2.2.2.2.1
theorem d_CM_keepMap_37 : decode prog_1_method_85_code 37 = .ok (.invokevirtual 449, 3) := F_CM_keepMap_0.2.2.2.2.2.2.2.2.2.2.2.2.2.2.2.2.2.2.1
theorem d_CM_keepMap_40 : decode prog_1_method_85_code 40 = .ok (.aload_n 0, 1) := F_CM_keepMap_0.2.2.2.2.2.2.2.2.2.2.2.2.2.2.2.2.2.2.2.1
theorem d_CM_keepMap_41 : decode prog_1_method_85_code 41 = .ok (.getfield 12, 3) := F_CM_keepMap_0.2.2.2.2.2.2.2.2.2.2.2.2.2.2.2.2.2.2.2.2.1
theorem d_CM_keepMap_44 : decode prog_1_method_85_code 44 = .ok (.getfield 225, 3) := F_CM_keepMap_0.2.2.2.2.2.2.2.2.2.2.2.2.2.2.2.2.2.2.2.2.2.1
theorem d_CM_keepMap_47 : decode prog_1_method_85_code 47 = .ok (.iconst 1, 1) := F_CM_keepMap_0.2.2.2.2.2.2.2.2.2.2.2.2.2.2.2.2.2.2.2.2.2.2.1
theorem d_CM_keepMap_48 : decode prog_1_method_85_code 48 = .ok (.isub, 1) := F_CM_keepMap_0.2.2.2.2.2.2.2.2.2.2.2.2.2.2.2.2.2.2.2.2.2.2.2.1
theorem d_CM_keepMap_49 : decode prog_1_method_85_code 49 = .ok (.ireturn, 1) := F_CM_keepMap_0.2.2.2.2.2.2.2.2.2.2.2.2.2.2.2.2.2.2.2.2.2.2.2.2.1
theorem F_Past_made_0 : Jvm.Free.DS.Facts prog_5_method_3_code 0 [(.aload_n 0, 1), (.getfield 9, 3), (.aload_n 0, 1), (.invokevirtual 27, 3), (.iconst 0, 1), (.iastore, 1), (.return_, 1)] := Jvm.Free.DS.facts 0 _ (by decide +kernel) (by decide +kernel)
theorem d_Past_made_0 : decode prog_5_method_3_code 0 = .ok (.aload_n 0, 1) := F_Past_made_0.1
theorem d_Past_made_1 : decode prog_5_method_3_code 1 = .ok (.getfield 9, 3) := F_Past_made_0.2.1
theorem d_Past_made_4 : decode prog_5_method_3_code 4 = .ok (.aload_n 0, 1) := F_Past_made_0.2.2.1
theorem d_Past_made_5 : decode prog_5_method_3_code 5 = .ok (.invokevirtual 27, 3) := F_Past_made_0.2.2.2.1
theorem d_Past_made_8 : decode prog_5_method_3_code 8 = .ok (.iconst 0, 1) := F_Past_made_0.2.2.2.2.1
theorem d_Past_made_9 : decode prog_5_method_3_code 9 = .ok (.iastore, 1) := F_Past_made_0.2.2.2.2.2.1
theorem d_Past_made_10 : decode prog_5_method_3_code 10 = .ok (.return_, 1) := F_Past_made_0.2.2.2.2.2.2.1
theorem F_Past_nextPlace_0 : Jvm.Free.DS.Facts prog_5_method_7_code 0 [(.aload_n 0, 1), (.getfield 23, 3), (.bipush (16), 2), (.if_icmp .ne (19), 3), (.aload_n 0, 1), (.aload_n 0, 1), (.getfield 43, 3), (.iconst 1, 1), (.iadd, 1), (.bipush (16), 2), (.irem, 1), (.putfield 43, 3), (.goto (13), 3), (.aload_n 0, 1), (.dup, 1), (.getfield 23, 3), (.iconst 1, 1), (.iadd, 1), (.putfield 23, 3), (.aload_n 0, 1), (.getfield 43, 3), (.aload_n 0, 1), (.getfield 23, 3), (.iadd, 1), (.iconst 1, 1), (.isub, 1), (.bipush (16), 2), (.irem, 1), (.ireturn, 1)] := Jvm.Free.DS.facts 0 _ (by decide +kernel) (by decide +kernel)
theorem d_Past_nextPlace_0 : decode prog_5_method_7_code 0 = .ok (.aload_n 0, 1) := F_Past_nextPlace_0.1
theorem d_Past_nextPlace_1 : decode prog_5_method_7_code 1 = .ok (.getfield 23, 3) := F_Past_nextPlace_0.2.1
theorem d_Past_nextPlace_4 : decode prog_5_method_7_code 4 = .ok (.bipush (16), 2) := F_Past_nextPlace_0.2.2.1
theorem d_Past_nextPlace_6 : decode prog_5_method_7_code 6 = .ok (.if_icmp .ne (19), 3) := F_Past_nextPlace_0.2.2.2.1
theorem d_Past_nextPlace_9 : decode prog_5_method_7_code 9 = .ok (.aload_n 0, 1) := F_Past_nextPlace_0.2.2.2.2.1
theorem d_Past_nextPlace_10 : decode prog_5_method_7_code 10 = .ok (.aload_n 0, 1) := F_Past_nextPlace_0.2.2.2.2.2.1
theorem d_Past_nextPlace_11 : decode prog_5_method_7_code 11 = .ok (.getfield 43, 3) := F_Past_nextPlace_0.2.2.2.2.2.2.1
theorem d_Past_nextPlace_14 : decode prog_5_method_7_code 14 = .ok (.iconst 1, 1) := F_Past_nextPlace_0.2.2.2.2.2.2.2.1
theorem d_Past_nextPlace_15 : decode prog_5_method_7_code 15 = .ok (.iadd, 1) := F_Past_nextPlace_0.2.2.2.2.2.2.2.2.1
theorem d_Past_nextPlace_16 : decode prog_5_method_7_code 16 = .ok (.bipush (16), 2) := F_Past_nextPlace_0.2.2.2.2.2.2.2.2.2.1
theorem d_Past_nextPlace_18 : decode prog_5_method_7_code 18 = .ok (.irem, 1) := F_Past_nextPlace_0.2.2.2.2.2.2.2.2.2.2.1
theorem d_Past_nextPlace_19 : decode prog_5_method_7_code 19 = .ok (.putfield 43, 3) := F_Past_nextPlace_0.2.2.2.2.2.2.2.2.2.2.2.1
theorem d_Past_nextPlace_22 : decode prog_5_method_7_code 22 = .ok (.goto (13), 3) := F_Past_nextPlace_0.2.2.2.2.2.2.2.2.2.2.2.2.1
theorem d_Past_nextPlace_25 : decode prog_5_method_7_code 25 = .ok (.aload_n 0, 1) := F_Past_nextPlace_0.2.2.2.2.2.2.2.2.2.2.2.2.2.1
theorem d_Past_nextPlace_26 : decode prog_5_method_7_code 26 = .ok (.dup, 1) := F_Past_nextPlace_0.2.2.2.2.2.2.2.2.2.2.2.2.2.2.1
theorem d_Past_nextPlace_27 : decode prog_5_method_7_code 27 = .ok (.getfield 23, 3) := F_Past_nextPlace_0.2.2.2.2.2.2.2.2.2.2.2.2.2.2.2.1
theorem d_Past_nextPlace_30 : decode prog_5_method_7_code 30 = .ok (.iconst 1, 1) := F_Past_nextPlace_0.2.2.2.2.2.2.2.2.2.2.2.2.2.2.2.2.1
theorem d_Past_nextPlace_31 : decode prog_5_method_7_code 31 = .ok (.iadd, 1) := F_Past_nextPlace_0.2.2.2.2.2.2.2.2.2.2.2.2.2.2.2.2.2.1
theorem d_Past_nextPlace_32 : decode prog_5_method_7_code 32 = .ok (.putfield 23, 3) := F_Past_nextPlace_0.2.2.2.2.2.2.2.2.2.2.2.2.2.2.2.2.2.2.1
theorem d_Past_nextPlace_35 : decode prog_5_method_7_code 35 = .ok (.aload_n 0, 1) := F_Past_nextPlace_0.2.2.2.2.2.2.2.2.2.2.2.2.2.2.2.2.2.2.2.1
theorem d_Past_nextPlace_36 : decode prog_5_method_7_code 36 = .ok (.getfield 43, 3) := F_Past_nextPlace_0.2.2.2.2.2.2.2.2.2.2.2.2.2.2.2.2.2.2.2.2.1
theorem d_Past_nextPlace_39 : decode prog_5_method_7_code 39 = .ok (.aload_n 0, 1) := F_Past_nextPlace_0.2.2.2.2.2.2.2.2.2.2.2.2.2.2.2.2.2.2.2.2.2.1
theorem d_Past_nextPlace_40 : decode prog_5_method_7_code 40 = .ok (.getfield 23, 3) := F_Past_nextPlace_0.2.2.2.2.2.2.2.2.2.2.2.2.2.2.2.2.2.2.2.2.2.2.1
theorem d_Past_nextPlace_43 : decode prog_5_method_7_code 43 = .ok (.iadd, 1) := F_Past_nextPlace_0.2.2.2.2.2.2.2.2.2.2.2.2.2.2.2.2.2.2.2.2.2.2.2.1
theorem d_Past_nextPlace_44 : decode prog_5_method_7_code 44 = .ok (.iconst 1, 1) := F_Past_nextPlace_0.2.2.2.2.2.2.2.2.2.2.2.2.2.2.2.2.2.2.2.2.2.2.2.2.1
theorem d_Past_nextPlace_45 : decode prog_5_method_7_code 45 = .ok (.isub, 1) := F_Past_nextPlace_0.2.2.2.2.2.2.2.2.2.2.2.2.2.2.2.2.2.2.2.2.2.2.2.2.2.1
theorem d_Past_nextPlace_46 : decode prog_5_method_7_code 46 = .ok (.bipush (16), 2) := F_Past_nextPlace_0.2.2.2.2.2.2.2.2.2.2.2.2.2.2.2.2.2.2.2.2.2.2.2.2.2.2.1
theorem d_Past_nextPlace_48 : decode prog_5_method_7_code 48 = .ok (.irem, 1) := F_Past_nextPlace_0.2.2.2.2.2.2.2.2.2.2.2.2.2.2.2.2.2.2.2.2.2.2.2.2.2.2.2.1
theorem d_Past_nextPlace_49 : decode prog_5_method_7_code 49 = .ok (.ireturn, 1) := F_Past_nextPlace_0.2.2.2.2.2.2.2.2.2.2.2.2.2.2.2.2.2.2.2.2.2.2.2.2.2.2.2.2.1
theorem F_CM_square_0 : Jvm.Free.DS.Facts prog_1_method_12_code 0 [(.aload_n 0, 1), (.getfield 12, 3), (.iload_n 1, 1), (.invokevirtual 127, 3), (.ifCond .eq (14), 3), (.iload_n 2, 1), (.iconst 1, 1), (.if_icmp .lt (9), 3), (.iload_n 2, 1), (.bipush (20), 2), (.if_icmp .le (5), 3), (.iconst (-1), 1), (.ireturn, 1), (.aload_n 0, 1), (.getfield 31, 3), (.aload_n 0, 1), (.getfield 12, 3), (.getfield 142, 3), (.iload_n 1, 1), (.aaload, 1), (.iload_n 2, 1), (.aload_n 0, 1), (.getfield 65, 3), (.invokevirtual 192, 3), (.aload_n 0, 1), (.aload_n 0, 1), (.getfield 65, 3), (.invokevirtual 188, 3), (.ireturn, 1)] := Jvm.Free.DS.facts 0 _ (by decide +kernel) (by decide +kernel)
theorem d_CM_square_0 : decode prog_1_method_12_code 0 = .ok (.aload_n 0, 1) := F_CM_square_0.1
theorem d_CM_square_1 : decode prog_1_method_12_code 1 = .ok (.getfield 12, 3) := F_CM_square_0.2.1
theorem d_CM_square_4 : decode prog_1_method_12_code 4 = .ok (.iload_n 1, 1) := F_CM_square_0.2.2.1
theorem d_CM_square_5 : decode prog_1_method_12_code 5 = .ok (.invokevirtual 127, 3) := F_CM_square_0.2.2.2.1
theorem d_CM_square_8 : decode prog_1_method_12_code 8 = .ok (.ifCond .eq (14), 3) := F_CM_square_0.2.2.2.2.1
theorem d_CM_square_11 : decode prog_1_method_12_code 11 = .ok (.iload_n 2, 1) := F_CM_square_0.2.2.2.2.2.1
theorem d_CM_square_12 : decode prog_1_method_12_code 12 = .ok (.iconst 1, 1) := F_CM_square_0.2.2.2.2.2.2.1
theorem d_CM_square_13 : decode prog_1_method_12_code 13 = .ok (.if_icmp .lt (9), 3) := F_CM_square_0.2.2.2.2.2.2.2.1
theorem d_CM_square_16 : decode prog_1_method_12_code 16 = .ok (.iload_n 2, 1) := F_CM_square_0.2.2.2.2.2.2.2.2.1
theorem d_CM_square_17 : decode prog_1_method_12_code 17 = .ok (.bipush (20), 2) := F_CM_square_0.2.2.2.2.2.2.2.2.2.1
theorem d_CM_square_19 : decode prog_1_method_12_code 19 = .ok (.if_icmp .le (5), 3) := F_CM_square_0.2.2.2.2.2.2.2.2.2.2.1
theorem d_CM_square_22 : decode prog_1_method_12_code 22 = .ok (.iconst (-1), 1) := F_CM_square_0.2.2.2.2.2.2.2.2.2.2.2.1
theorem d_CM_square_23 : decode prog_1_method_12_code 23 = .ok (.ireturn, 1) := F_CM_square_0.2.2.2.2.2.2.2.2.2.2.2.2.1
theorem d_CM_square_24 : decode prog_1_method_12_code 24 = .ok (.aload_n 0, 1) := F_CM_square_0.2.2.2.2.2.2.2.2.2.2.2.2.2.1
theorem d_CM_square_25 : decode prog_1_method_12_code 25 = .ok (.getfield 31, 3) := F_CM_square_0.2.2.2.2.2.2.2.2.2.2.2.2.2.2.1
theorem d_CM_square_28 : decode prog_1_method_12_code 28 = .ok (.aload_n 0, 1) := F_CM_square_0.2.2.2.2.2.2.2.2.2.2.2.2.2.2.2.1
theorem d_CM_square_29 : decode prog_1_method_12_code 29 = .ok (.getfield 12, 3) := F_CM_square_0.2.2.2.2.2.2.2.2.2.2.2.2.2.2.2.2.1
theorem d_CM_square_32 : decode prog_1_method_12_code 32 = .ok (.getfield 142, 3) := F_CM_square_0.2.2.2.2.2.2.2.2.2.2.2.2.2.2.2.2.2.1
theorem d_CM_square_35 : decode prog_1_method_12_code 35 = .ok (.iload_n 1, 1) := F_CM_square_0.2.2.2.2.2.2.2.2.2.2.2.2.2.2.2.2.2.2.1
theorem d_CM_square_36 : decode prog_1_method_12_code 36 = .ok (.aaload, 1) := F_CM_square_0.2.2.2.2.2.2.2.2.2.2.2.2.2.2.2.2.2.2.2.1
theorem d_CM_square_37 : decode prog_1_method_12_code 37 = .ok (.iload_n 2, 1) := F_CM_square_0.2.2.2.2.2.2.2.2.2.2.2.2.2.2.2.2.2.2.2.2.1
theorem d_CM_square_38 : decode prog_1_method_12_code 38 = .ok (.aload_n 0, 1) := F_CM_square_0.2.2.2.2.2.2.2.2.2.2.2.2.2.2.2.2.2.2.2.2.2.1
theorem d_CM_square_39 : decode prog_1_method_12_code 39 = .ok (.getfield 65, 3) := F_CM_square_0.2.2.2.2.2.2.2.2.2.2.2.2.2.2.2.2.2.2.2.2.2.2.1
theorem d_CM_square_42 : decode prog_1_method_12_code 42 = .ok (.invokevirtual 192, 3) := F_CM_square_0.2.2.2.2.2.2.2.2.2.2.2.2.2.2.2.2.2.2.2.2.2.2.2.1
theorem d_CM_square_45 : decode prog_1_method_12_code 45 = .ok (.aload_n 0, 1) := F_CM_square_0.2.2.2.2.2.2.2.2.2.2.2.2.2.2.2.2.2.2.2.2.2.2.2.2.1
theorem d_CM_square_46 : decode prog_1_method_12_code 46 = .ok (.aload_n 0, 1) := F_CM_square_0.2.2.2.2.2.2.2.2.2.2.2.2.2.2.2.2.2.2.2.2.2.2.2.2.2.1
theorem d_CM_square_47 : decode prog_1_method_12_code 47 = .ok (.getfield 65, 3) := F_CM_square_0.2.2.2.2.2.2.2.2.2.2.2.2.2.2.2.2.2.2.2.2.2.2.2.2.2.2.1
theorem d_CM_square_50 : decode prog_1_method_12_code 50 = .ok (.invokevirtual 188, 3) := F_CM_square_0.2.2.2.2.2.2.2.2.2.2.2.2.2.2.2.2.2.2.2.2.2.2.2.2.2.2.2.1
theorem d_CM_square_53 : decode prog_1_method_12_code 53 = .ok (.ireturn, 1) := F_CM_square_0.2.2.2.2.2.2.2.2.2.2.2.2.2.2.2.2.2.2.2.2.2.2.2.2.2.2.2.2.1
theorem F_Maker_toSquare_0 : Jvm.Free.DS.Facts prog_2_method_3_code 0 [(.lconst 0, 1), (.lconst 0, 1), (.lconst 1, 1), (.aload_n 0, 1), (.getfield 19, 3), (.getfield 37, 3), (.iconst 0, 1), (.aaload, 1), (.invokestatic 41, 3), (.iload_n 2, 1), (.i2l, 1), (.lconst 0, 1), (.lconst 1, 1), (.aload_n 0, 1), (.getfield 19, 3), (.getfield 37, 3), (.iconst 1, 1), (.aaload, 1), (.invokestatic 41, 3), (.iload_n 2, 1), (.i2l, 1), (.iload_n 2, 1), (.i2l, 1), (.lconst 1, 1), (.aload_n 0, 1), (.getfield 19, 3), (.getfield 37, 3), (.iconst 2, 1), (.aaload, 1), (.invokestatic 41, 3), (.lconst 0, 1), (.iload_n 2, 1)] := Jvm.Free.DS.facts 0 _ (by decide +kernel) (by decide +kernel)
theorem d_Maker_toSquare_0 : decode prog_2_method_3_code 0 = .ok (.lconst 0, 1) := F_Maker_toSquare_0.1
theorem d_Maker_toSquare_1 : decode prog_2_method_3_code 1 = .ok (.lconst 0, 1) := F_Maker_toSquare_0.2.1
theorem d_Maker_toSquare_2 : decode prog_2_method_3_code 2 = .ok (.lconst 1, 1) := F_Maker_toSquare_0.2.2.1
theorem d_Maker_toSquare_3 : decode prog_2_method_3_code 3 = .ok (.aload_n 0, 1) := F_Maker_toSquare_0.2.2.2.1
theorem d_Maker_toSquare_4 : decode prog_2_method_3_code 4 = .ok (.getfield 19, 3) := F_Maker_toSquare_0.2.2.2.2.1
theorem d_Maker_toSquare_7 : decode prog_2_method_3_code 7 = .ok (.getfield 37, 3) := F_Maker_toSquare_0.2.2.2.2.2.1
theorem d_Maker_toSquare_10 : decode prog_2_method_3_code 10 = .ok (.iconst 0, 1) := F_Maker_toSquare_0.2.2.2.2.2.2.1
theorem d_Maker_toSquare_11 : decode prog_2_method_3_code 11 = .ok (.aaload, 1) := F_Maker_toSquare_0.2.2.2.2.2.2.2.1
theorem d_Maker_toSquare_12 : decode prog_2_method_3_code 12 = .ok (.invokestatic 41, 3) := F_Maker_toSquare_0.2.2.2.2.2.2.2.2.1
theorem d_Maker_toSquare_15 : decode prog_2_method_3_code 15 = .ok (.iload_n 2, 1) := F_Maker_toSquare_0.2.2.2.2.2.2.2.2.2.1
theorem d_Maker_toSquare_16 : decode prog_2_method_3_code 16 = .ok (.i2l, 1) := F_Maker_toSquare_0.2.2.2.2.2.2.2.2.2.2.1
theorem d_Maker_toSquare_17 : decode prog_2_method_3_code 17 = .ok (.lconst 0, 1) := F_Maker_toSquare_0.2.2.2.2.2.2.2.2.2.2.2.1
theorem d_Maker_toSquare_18 : decode prog_2_method_3_code 18 = .ok (.lconst 1, 1) := F_Maker_toSquare_0.2.2.2.2.2.2.2.2.2.2.2.2.1
theorem d_Maker_toSquare_19 : decode prog_2_method_3_code 19 = .ok (.aload_n 0, 1) := F_Maker_toSquare_0.2.2.2.2.2.2.2.2.2.2.2.2.2.1
theorem d_Maker_toSquare_20 : decode prog_2_method_3_code 20 = .ok (.getfield 19, 3) := F_Maker_toSquare_0.2.2.2.2.2.2.2.2.2.2.2.2.2.2.1
theorem d_Maker_toSquare_23 : decode prog_2_method_3_code 23 = .ok (.getfield 37, 3) := F_Maker_toSquare_0.2.2.2.2.2.2.2.2.2.2.2.2.2.2.2.1
theorem d_Maker_toSquare_26 : decode prog_2_method_3_code 26 = .ok (.iconst 1, 1) := F_Maker_toSquare_0.2.2.2.2.2.2.2.2.2.2.2.2.2.2.2.2.1
theorem d_Maker_toSquare_27 : decode prog_2_method_3_code 27 = .ok (.aaload, 1) := F_Maker_toSquare_0.2.2.2.2.2.2.2.2.2.2.2.2.2.2.2.2.2.1
theorem d_Maker_toSquare_28 : decode prog_2_method_3_code 28 = .ok (.invokestatic 41, 3) := F_Maker_toSquare_0.2.2.2.2.2.2.2.2.2.2.2.2.2.2.2.2.2.2.1
theorem d_Maker_toSquare_31 : decode prog_2_method_3_code 31 = .ok (.iload_n 2, 1) := F_Maker_toSquare_0.2.2.2.2.2.2.2.2.2.2.2.2.2.2.2.2.2.2.2.1
theorem d_Maker_toSquare_32 : decode prog_2_method_3_code 32 = .ok (.i2l, 1) := F_Maker_toSquare_0.2.2.2.2.2.2.2.2.2.2.2.2.2.2.2.2.2.2.2.2.1
theorem d_Maker_toSquare_33 : decode prog_2_method_3_code 33 = .ok (.iload_n 2, 1) := F_Maker_toSquare_0.2.2.2.2.2.2.2.2.2.2.2.2.2.2.2.2.2.2.2.2.2.1
theorem d_Maker_toSquare_34 : decode prog_2_method_3_code 34 = .ok (.i2l, 1) := F_Maker_toSquare_0.2.2.2.2.2.2.2.2.2.2.2.2.2.2.2.2.2.2.2.2.2.2.1
theorem d_Maker_toSquare_35 : decode prog_2_method_3_code 35 = .ok (.lconst 1, 1) := F_Maker_toSquare_0.2.2.2.2.2.2.2.2.2.2.2.2.2.2.2.2.2.2.2.2.2.2.2.1
theorem d_Maker_toSquare_36 : decode prog_2_method_3_code 36 = .ok (.aload_n 0, 1) := F_Maker_toSquare_0.2.2.2.2.2.2.2.2.2.2.2.2.2.2.2.2.2.2.2.2.2.2.2.2.1
theorem d_Maker_toSquare_37 : decode prog_2_method_3_code 37 = .ok (.getfield 19, 3) := F_Maker_toSquare_0.2.2.2.2.2.2.2.2.2.2.2.2.2.2.2.2.2.2.2.2.2.2.2.2.2.1
theorem d_Maker_toSquare_40 : decode prog_2_method_3_code 40 = .ok (.getfield 37, 3) := F_Maker_toSquare_0.2.2.2.2.2.2.2.2.2.2.2.2.2.2.2.2.2.2.2.2.2.2.2.2.2.2.1
theorem d_Maker_toSquare_43 : decode prog_2_method_3_code 43 = .ok (.iconst 2, 1) := F_Maker_toSquare_0.2.2.2.2.2.2.2.2.2.2.2.2.2.2.2.2.2.2.2.2.2.2.2.2.2.2.2.1
theorem d_Maker_toSquare_44 : decode prog_2_method_3_code 44 = .ok (.aaload, 1) := F_Maker_toSquare_0.2.2.2.2.2.2.2.2.2.2.2.2.2.2.2.2.2.2.2.2.2.2.2.2.2.2.2.2.1
theorem d_Maker_toSquare_45 : decode prog_2_method_3_code 45 = .ok (.invokestatic 41, 3) := F_Maker_toSquare_0.2.2.2.2.2.2.2.2.2.2.2.2.2.2.2.2.2.2.2.2.2.2.2.2.2.2.2.2.2.1
theorem d_Maker_toSquare_48 : decode prog_2_method_3_code 48 = .ok (.lconst 0, 1) := F_Maker_toSquare_0.2.2.2.2.2.2.2.2.2.2.2.2.2.2.2.2.2.2.2.2.2.2.2.2.2.2.2.2.2.2.1
theorem d_Maker_toSquare_49 : decode prog_2_method_3_code 49 = .ok (.iload_n 2, 1) := F_Maker_toSquare_0.2.2.2.2.2.2.2.2.2.2.2.2.2.2.2.2.2.2.2.2.2.2.2.2.2.2.2.2.2.2.2.1
theorem F_Maker_toSquare_50 : Jvm.Free.DS.Facts prog_2_method_3_code 50 [(.i2l, 1), (.lconst 1, 1), (.aload_n 0, 1), (.getfield 19, 3), (.getfield 37, 3), (.iconst 3, 1), (.aaload, 1), (.invokestatic 41, 3), (.aload_n 0, 1), (.aload_n 1, 1), (.aload_n 0, 1), (.getfield 19, 3), (.iconst 0, 1), (.aload_n 3, 1), (.invokevirtual 47, 3), (.return_, 1)] := Jvm.Free.DS.facts 50 _ (by decide +kernel) (by decide +kernel)
theorem d_Maker_toSquare_50 : decode prog_2_method_3_code 50 = .ok (.i2l, 1) := F_Maker_toSquare_50.1
theorem d_Maker_toSquare_51 : decode prog_2_method_3_code 51 = .ok (.lconst 1, 1) := F_Maker_toSquare_50.2.1
theorem d_Maker_toSquare_52 : decode prog_2_method_3_code 52 = .ok (.aload_n 0, 1) := F_Maker_toSquare_50.2.2.1
theorem d_Maker_toSquare_53 : decode prog_2_method_3_code 53 = .ok (.getfield 19, 3) := F_Maker_toSquare_50.2.2.2.1
theorem d_Maker_toSquare_56 : decode prog_2_method_3_code 56 = .ok (.getfield 37, 3) := F_Maker_toSquare_50.2.2.2.2.1
theorem d_Maker_toSquare_59 : decode prog_2_method_3_code 59 = .ok (.iconst 3, 1) := F_Maker_toSquare_50.2.2.2.2.2.1
theorem d_Maker_toSquare_60 : decode prog_2_method_3_code 60 = .ok (.aaload, 1) := F_Maker_toSquare_50.2.2.2.2.2.2.1
theorem d_Maker_toSquare_61 : decode prog_2_method_3_code 61 = .ok (.invokestatic 41, 3) := F_Maker_toSquare_50.2.2.2.2.2.2.2.1
theorem d_Maker_toSquare_64 : decode prog_2_method_3_code 64 = .ok (.aload_n 0, 1) := F_Maker_toSquare_50.2.2.2.2.2.2.2.2.1
theorem d_Maker_toSquare_65 : decode prog_2_method_3_code 65 = .ok (.aload_n 1, 1) := F_Maker_toSquare_50.2.2.2.2.2.2.2.2.2.1
theorem d_Maker_toSquare_66 : decode prog_2_method_3_code 66 = .ok (.aload_n 0, 1) := F_Maker_toSquare_50.2.2.2.2.2.2.2.2.2.2.1
theorem d_Maker_toSquare_67 : decode prog_2_method_3_code 67 = .ok (.getfield 19, 3) := F_Maker_toSquare_50.2.2.2.2.2.2.2.2.2.2.2.1
theorem d_Maker_toSquare_70 : decode prog_2_method_3_code 70 = .ok (.iconst 0, 1) := F_Maker_toSquare_50.2.2.2.2.2.2.2.2.2.2.2.2.1
theorem d_Maker_toSquare_71 : decode prog_2_method_3_code 71 = .ok (.aload_n 3, 1) := F_Maker_toSquare_50.2.2.2.2.2.2.2.2.2.2.2.2.2.1
theorem d_Maker_toSquare_72 : decode prog_2_method_3_code 72 = .ok (.invokevirtual 47, 3) := F_Maker_toSquare_50.2.2.2.2.2.2.2.2.2.2.2.2.2.2.1
theorem d_Maker_toSquare_75 : decode prog_2_method_3_code 75 = .ok (.return_, 1) := F_Maker_toSquare_50.2.2.2.2.2.2.2.2.2.2.2.2.2.2.2.1
theorem F_CM_product_0 : Jvm.Free.DS.Facts prog_1_method_13_code 0 [(.aload_n 0, 1), (.getfield 12, 3), (.iload_n 1, 1), (.invokevirtual 151, 3), (.ifCond .eq (14), 3), (.aload_n 0, 1), (.getfield 12, 3), (.iload_n 2, 1), (.invokevirtual 151, 3), (.ifCond .ne (5), 3), (.iconst (-1), 1), (.ireturn, 1), (.aload_n 0, 1), (.getfield 12, 3), (.getfield 157, 3), (.iload_n 1, 1), (.aaload, 1), (.aload_n 0, 1), (.getfield 12, 3), (.getfield 157, 3), (.iload_n 2, 1), (.aaload, 1), (.aload_n 0, 1), (.getfield 65, 3), (.invokestatic 196, 3), (.aload_n 0, 1), (.aload_n 0, 1), (.getfield 65, 3), (.invokevirtual 188, 3), (.ireturn, 1)] := Jvm.Free.DS.facts 0 _ (by decide +kernel) (by decide +kernel)
theorem d_CM_product_0 : decode prog_1_method_13_code 0 = .ok (.aload_n 0, 1) := F_CM_product_0.1
theorem d_CM_product_1 : decode prog_1_method_13_code 1 = .ok (.getfield 12, 3) := F_CM_product_0.2.1
theorem d_CM_product_4 : decode prog_1_method_13_code 4 = .ok (.iload_n 1, 1) := F_CM_product_0.2.2.1
theorem d_CM_product_5 : decode prog_1_method_13_code 5 = .ok (.invokevirtual 151, 3) := F_CM_product_0.2.2.2.1
theorem d_CM_product_8 : decode prog_1_method_13_code 8 = .ok (.ifCond .eq (14), 3) := F_CM_product_0.2.2.2.2.1
theorem d_CM_product_11 : decode prog_1_method_13_code 11 = .ok (.aload_n 0, 1) := F_CM_product_0.2.2.2.2.2.1
theorem d_CM_product_12 : decode prog_1_method_13_code 12 = .ok (.getfield 12, 3) := F_CM_product_0.2.2.2.2.2.2.1
theorem d_CM_product_15 : decode prog_1_method_13_code 15 = .ok (.iload_n 2, 1) := F_CM_product_0.2.2.2.2.2.2.2.1
theorem d_CM_product_16 : decode prog_1_method_13_code 16 = .ok (.invokevirtual 151, 3) := F_CM_product_0.2.2.2.2.2.2.2.2.1
theorem d_CM_product_19 : decode prog_1_method_13_code 19 = .ok (.ifCond .ne (5), 3) := F_CM_product_0.2.2.2.2.2.2.2.2.2.1
theorem d_CM_product_22 : decode prog_1_method_13_code 22 = .ok (.iconst (-1), 1) := F_CM_product_0.2.2.2.2.2.2.2.2.2.2.1
theorem d_CM_product_23 : decode prog_1_method_13_code 23 = .ok (.ireturn, 1) := F_CM_product_0.2.2.2.2.2.2.2.2.2.2.2.1
theorem d_CM_product_24 : decode prog_1_method_13_code 24 = .ok (.aload_n 0, 1) := F_CM_product_0.2.2.2.2.2.2.2.2.2.2.2.2.1
theorem d_CM_product_25 : decode prog_1_method_13_code 25 = .ok (.getfield 12, 3) := F_CM_product_0.2.2.2.2.2.2.2.2.2.2.2.2.2.1
theorem d_CM_product_28 : decode prog_1_method_13_code 28 = .ok (.getfield 157, 3) := F_CM_product_0.2.2.2.2.2.2.2.2.2.2.2.2.2.2.1
theorem d_CM_product_31 : decode prog_1_method_13_code 31 = .ok (.iload_n 1, 1) := F_CM_product_0.2.2.2.2.2.2.2.2.2.2.2.2.2.2.2.1
theorem d_CM_product_32 : decode prog_1_method_13_code 32 = .ok (.aaload, 1) := F_CM_product_0.2.2.2.2.2.2.2.2.2.2.2.2.2.2.2.2.1
theorem d_CM_product_33 : decode prog_1_method_13_code 33 = .ok (.aload_n 0, 1) := F_CM_product_0.2.2.2.2.2.2.2.2.2.2.2.2.2.2.2.2.2.1
theorem d_CM_product_34 : decode prog_1_method_13_code 34 = .ok (.getfield 12, 3) := F_CM_product_0.2.2.2.2.2.2.2.2.2.2.2.2.2.2.2.2.2.2.1
theorem d_CM_product_37 : decode prog_1_method_13_code 37 = .ok (.getfield 157, 3) := F_CM_product_0.2.2.2.2.2.2.2.2.2.2.2.2.2.2.2.2.2.2.2.1
theorem d_CM_product_40 : decode prog_1_method_13_code 40 = .ok (.iload_n 2, 1) := F_CM_product_0.2.2.2.2.2.2.2.2.2.2.2.2.2.2.2.2.2.2.2.2.1
theorem d_CM_product_41 : decode prog_1_method_13_code 41 = .ok (.aaload, 1) := F_CM_product_0.2.2.2.2.2.2.2.2.2.2.2.2.2.2.2.2.2.2.2.2.2.1
theorem d_CM_product_42 : decode prog_1_method_13_code 42 = .ok (.aload_n 0, 1) := F_CM_product_0.2.2.2.2.2.2.2.2.2.2.2.2.2.2.2.2.2.2.2.2.2.2.1
theorem d_CM_product_43 : decode prog_1_method_13_code 43 = .ok (.getfield 65, 3) := F_CM_product_0.2.2.2.2.2.2.2.2.2.2.2.2.2.2.2.2.2.2.2.2.2.2.2.1
theorem d_CM_product_46 : decode prog_1_method_13_code 46 = .ok (.invokestatic 196, 3) := F_CM_product_0.2.2.2.2.2.2.2.2.2.2.2.2.2.2.2.2.2.2.2.2.2.2.2.2.1
theorem d_CM_product_49 : decode prog_1_method_13_code 49 = .ok (.aload_n 0, 1) := F_CM_product_0.2.2.2.2.2.2.2.2.2.2.2.2.2.2.2.2.2.2.2.2.2.2.2.2.2.1
theorem d_CM_product_50 : decode prog_1_method_13_code 50 = .ok (.aload_n 0, 1) := F_CM_product_0.2.2.2.2.2.2.2.2.2.2.2.2.2.2.2.2.2.2.2.2.2.2.2.2.2.2.1
theorem d_CM_product_51 : decode prog_1_method_13_code 51 = .ok (.getfield 65, 3) := F_CM_product_0.2.2.2.2.2.2.2.2.2.2.2.2.2.2.2.2.2.2.2.2.2.2.2.2.2.2.2.1
theorem d_CM_product_54 : decode prog_1_method_13_code 54 = .ok (.invokevirtual 188, 3) := F_CM_product_0.2.2.2.2.2.2.2.2.2.2.2.2.2.2.2.2.2.2.2.2.2.2.2.2.2.2.2.2.1
theorem d_CM_product_57 : decode prog_1_method_13_code 57 = .ok (.ireturn, 1) := F_CM_product_0.2.2.2.2.2.2.2.2.2.2.2.2.2.2.2.2.2.2.2.2.2.2.2.2.2.2.2.2.2.1
theorem F_Plane_hasMap_0 : Jvm.Free.DS.Facts prog_6_method_4_code 0 [(.iload_n 1, 1), (.ifCond .lt (15), 3), (.iload_n 1, 1), (.aload_n 0, 1), (.getfield 33, 3), (.if_icmp .ge (7), 3), (.iconst 1, 1), (.goto (4), 3), (.iconst 0, 1), (.ireturn, 1)] := Jvm.Free.DS.facts 0 _ (by decide +kernel) (by decide +kernel)
theorem d_Plane_hasMap_0 : decode prog_6_method_4_code 0 = .ok (.iload_n 1, 1) := F_Plane_hasMap_0.1
theorem d_Plane_hasMap_1 : decode prog_6_method_4_code 1 = .ok (.ifCond .lt (15), 3) := F_Plane_hasMap_0.2.1
theorem d_Plane_hasMap_4 : decode prog_6_method_4_code 4 = .ok (.iload_n 1, 1) := F_Plane_hasMap_0.2.2.1
theorem d_Plane_hasMap_5 : decode prog_6_method_4_code 5 = .ok (.aload_n 0, 1) := F_Plane_hasMap_0.2.2.2.1
theorem d_Plane_hasMap_6 : decode prog_6_method_4_code 6 = .ok (.getfield 33, 3) := F_Plane_hasMap_0.2.2.2.2.1
theorem d_Plane_hasMap_9 : decode prog_6_method_4_code 9 = .ok (.if_icmp .ge (7), 3) := F_Plane_hasMap_0.2.2.2.2.2.1
theorem d_Plane_hasMap_12 : decode prog_6_method_4_code 12 = .ok (.iconst 1, 1) := F_Plane_hasMap_0.2.2.2.2.2.2.1
theorem d_Plane_hasMap_13 : decode prog_6_method_4_code 13 = .ok (.goto (4), 3) := F_Plane_hasMap_0.2.2.2.2.2.2.2.1
theorem d_Plane_hasMap_16 : decode prog_6_method_4_code 16 = .ok (.iconst 0, 1) := F_Plane_hasMap_0.2.2.2.2.2.2.2.2.1
theorem d_Plane_hasMap_17 : decode prog_6_method_4_code 17 = .ok (.ireturn, 1) := F_Plane_hasMap_0.2.2.2.2.2.2.2.2.2.1
theorem F_CM_inverse_0 : Jvm.Free.DS.Facts prog_1_method_14_code 0 [(.aload_n 0, 1), (.getfield 12, 3), (.iload_n 1, 1), (.invokevirtual 151, 3), (.ifCond .ne (5), 3), (.iconst (-1), 1), (.ireturn, 1), (.aload_n 0, 1), (.getfield 12, 3), (.getfield 157, 3), (.iload_n 1, 1), (.aaload, 1), (.aload_n 0, 1), (.getfield 65, 3), (.invokestatic 202, 3), (.aload_n 0, 1), (.aload_n 0, 1), (.getfield 65, 3), (.invokevirtual 188, 3), (.ireturn, 1)] := Jvm.Free.DS.facts 0 _ (by decide +kernel) (by decide +kernel)
theorem d_CM_inverse_0 : decode prog_1_method_14_code 0 = .ok (.aload_n 0, 1) := F_CM_inverse_0.1
theorem d_CM_inverse_1 : decode prog_1_method_14_code 1 = .ok (.getfield 12, 3) := F_CM_inverse_0.2.1
theorem d_CM_inverse_4 : decode prog_1_method_14_code 4 = .ok (.iload_n 1, 1) := F_CM_inverse_0.2.2.1
theorem d_CM_inverse_5 : decode prog_1_method_14_code 5 = .ok (.invokevirtual 151, 3) := F_CM_inverse_0.2.2.2.1
theorem d_CM_inverse_8 : decode prog_1_method_14_code 8 = .ok (.ifCond .ne (5), 3) := F_CM_inverse_0.2.2.2.2.1
theorem d_CM_inverse_11 : decode prog_1_method_14_code 11 = .ok (.iconst (-1), 1) := F_CM_inverse_0.2.2.2.2.2.1
theorem d_CM_inverse_12 : decode prog_1_method_14_code 12 = .ok (.ireturn, 1) := F_CM_inverse_0.2.2.2.2.2.2.1
theorem d_CM_inverse_13 : decode prog_1_method_14_code 13 = .ok (.aload_n 0, 1) := F_CM_inverse_0.2.2.2.2.2.2.2.1
theorem d_CM_inverse_14 : decode prog_1_method_14_code 14 = .ok (.getfield 12, 3) := F_CM_inverse_0.2.2.2.2.2.2.2.2.1
theorem d_CM_inverse_17 : decode prog_1_method_14_code 17 = .ok (.getfield 157, 3) := F_CM_inverse_0.2.2.2.2.2.2.2.2.2.1
theorem d_CM_inverse_20 : decode prog_1_method_14_code 20 = .ok (.iload_n 1, 1) := F_CM_inverse_0.2.2.2.2.2.2.2.2.2.2.1
theorem d_CM_inverse_21 : decode prog_1_method_14_code 21 = .ok (.aaload, 1) := F_CM_inverse_0.2.2.2.2.2.2.2.2.2.2.2.1
theorem d_CM_inverse_22 : decode prog_1_method_14_code 22 = .ok (.aload_n 0, 1) := F_CM_inverse_0.2.2.2.2.2.2.2.2.2.2.2.2.1
theorem d_CM_inverse_23 : decode prog_1_method_14_code 23 = .ok (.getfield 65, 3) := F_CM_inverse_0.2.2.2.2.2.2.2.2.2.2.2.2.2.1
theorem d_CM_inverse_26 : decode prog_1_method_14_code 26 = .ok (.invokestatic 202, 3) := F_CM_inverse_0.2.2.2.2.2.2.2.2.2.2.2.2.2.2.1
theorem d_CM_inverse_29 : decode prog_1_method_14_code 29 = .ok (.aload_n 0, 1) := F_CM_inverse_0.2.2.2.2.2.2.2.2.2.2.2.2.2.2.2.1
theorem d_CM_inverse_30 : decode prog_1_method_14_code 30 = .ok (.aload_n 0, 1) := F_CM_inverse_0.2.2.2.2.2.2.2.2.2.2.2.2.2.2.2.2.1
theorem d_CM_inverse_31 : decode prog_1_method_14_code 31 = .ok (.getfield 65, 3) := F_CM_inverse_0.2.2.2.2.2.2.2.2.2.2.2.2.2.2.2.2.2.1
theorem d_CM_inverse_34 : decode prog_1_method_14_code 34 = .ok (.invokevirtual 188, 3) := F_CM_inverse_0.2.2.2.2.2.2.2.2.2.2.2.2.2.2.2.2.2.2.1
theorem d_CM_inverse_37 : decode prog_1_method_14_code 37 = .ok (.ireturn, 1) := F_CM_inverse_0.2.2.2.2.2.2.2.2.2.2.2.2.2.2.2.2.2.2.2.1
theorem F_CM_power_0 : Jvm.Free.DS.Facts prog_1_method_15_code 0 [(.aload_n 0, 1), (.getfield 12, 3), (.iload_n 1, 1), (.invokevirtual 151, 3), (.ifCond .eq (13), 3), (.iload_n 2, 1), (.ifCond .lt (9), 3), (.iload_n 2, 1), (.bipush (12), 2), (.if_icmp .le (5), 3), (.iconst (-1), 1), (.ireturn, 1), (.getstatic 206, 3), (.aload_n 0, 1), (.getfield 72, 3), (.invokestatic 209, 3), (.iconst 0, 1), (.istore_n 3, 1), (.iload_n 3, 1), (.iload_n 2, 1), (.if_icmp .ge (28), 3), (.aload_n 0, 1), (.aload_n 0, 1), (.getfield 12, 3), (.getfield 157, 3), (.iload_n 1, 1), (.aaload, 1), (.invokevirtual 214, 3), (.ifCond .ne (6), 3), (.bipush (-2), 2), (.ireturn, 1), (.iinc 3 (1), 3)] := Jvm.Free.DS.facts 0 _ (by decide +kernel) (by decide +kernel)
theorem d_CM_power_0 : decode prog_1_method_15_code 0 = .ok (.aload_n 0, 1) := F_CM_power_0.1
theorem d_CM_power_1 : decode prog_1_method_15_code 1 = .ok (.getfield 12, 3) := F_CM_power_0.2.1
theorem d_CM_power_4 : decode prog_1_method_15_code 4 = .ok (.iload_n 1, 1) := F_CM_power_0.2.2.1
theorem d_CM_power_5 : decode prog_1_method_15_code 5 = .ok (.invokevirtual 151, 3) := F_CM_power_0.2.2.2.1
theorem d_CM_power_8 : decode prog_1_method_15_code 8 = .ok (.ifCond .eq (13), 3) := F_CM_power_0.2.2.2.2.1
theorem d_CM_power_11 : decode prog_1_method_15_code 11 = .ok (.iload_n 2, 1) := F_CM_power_0.2.2.2.2.2.1
theorem d_CM_power_12 : decode prog_1_method_15_code 12 = .ok (.ifCond .lt (9), 3) := F_CM_power_0.2.2.2.2.2.2.1
theorem d_CM_power_15 : decode prog_1_method_15_code 15 = .ok (.iload_n 2, 1) := F_CM_power_0.2.2.2.2.2.2.2.1
theorem d_CM_power_16 : decode prog_1_method_15_code 16 = .ok (.bipush (12), 2) := F_CM_power_0.2.2.2.2.2.2.2.2.1
theorem d_CM_power_18 : decode prog_1_method_15_code 18 = .ok (.if_icmp .le (5), 3) := F_CM_power_0.2.2.2.2.2.2.2.2.2.1
theorem d_CM_power_21 : decode prog_1_method_15_code 21 = .ok (.iconst (-1), 1) := F_CM_power_0.2.2.2.2.2.2.2.2.2.2.1
theorem d_CM_power_22 : decode prog_1_method_15_code 22 = .ok (.ireturn, 1) := F_CM_power_0.2.2.2.2.2.2.2.2.2.2.2.1
theorem d_CM_power_23 : decode prog_1_method_15_code 23 = .ok (.getstatic 206, 3) := F_CM_power_0.2.2.2.2.2.2.2.2.2.2.2.2.1
theorem d_CM_power_26 : decode prog_1_method_15_code 26 = .ok (.aload_n 0, 1) := F_CM_power_0.2.2.2.2.2.2.2.2.2.2.2.2.2.1
theorem d_CM_power_27 : decode prog_1_method_15_code 27 = .ok (.getfield 72, 3) := F_CM_power_0.2.2.2.2.2.2.2.2.2.2.2.2.2.2.1
theorem d_CM_power_30 : decode prog_1_method_15_code 30 = .ok (.invokestatic 209, 3) := F_CM_power_0.2.2.2.2.2.2.2.2.2.2.2.2.2.2.2.1
theorem d_CM_power_33 : decode prog_1_method_15_code 33 = .ok (.iconst 0, 1) := F_CM_power_0.2.2.2.2.2.2.2.2.2.2.2.2.2.2.2.2.1
theorem d_CM_power_34 : decode prog_1_method_15_code 34 = .ok (.istore_n 3, 1) := F_CM_power_0.2.2.2.2.2.2.2.2.2.2.2.2.2.2.2.2.2.1
theorem d_CM_power_35 : decode prog_1_method_15_code 35 = .ok (.iload_n 3, 1) := F_CM_power_0.2.2.2.2.2.2.2.2.2.2.2.2.2.2.2.2.2.2.1
theorem d_CM_power_36 : decode prog_1_method_15_code 36 = .ok (.iload_n 2, 1) := F_CM_power_0.2.2.2.2.2.2.2.2.2.2.2.2.2.2.2.2.2.2.2.1
theorem d_CM_power_37 : decode prog_1_method_15_code 37 = .ok (.if_icmp .ge (28), 3) := F_CM_power_0.2.2.2.2.2.2.2.2.2.2.2.2.2.2.2.2.2.2.2.2.1
theorem d_CM_power_40 : decode prog_1_method_15_code 40 = .ok (.aload_n 0, 1) := F_CM_power_0.2.2.2.2.2.2.2.2.2.2.2.2.2.2.2.2.2.2.2.2.2.1
theorem d_CM_power_41 : decode prog_1_method_15_code 41 = .ok (.aload_n 0, 1) := F_CM_power_0.2.2.2.2.2.2.2.2.2.2.2.2.2.2.2.2.2.2.2.2.2.2.1
theorem d_CM_power_42 : decode prog_1_method_15_code 42 = .ok (.getfield 12, 3) := F_CM_power_0.2.2.2.2.2.2.2.2.2.2.2.2.2.2.2.2.2.2.2.2.2.2.2.1
theorem d_CM_power_45 : decode prog_1_method_15_code 45 = .ok (.getfield 157, 3) := F_CM_power_0.2.2.2.2.2.2.2.2.2.2.2.2.2.2.2.2.2.2.2.2.2.2.2.2.1
theorem d_CM_power_48 : decode prog_1_method_15_code 48 = .ok (.iload_n 1, 1) := F_CM_power_0.2.2.2.2.2.2.2.2.2.2.2.2.2.2.2.2.2.2.2.2.2.2.2.2.2.1
theorem d_CM_power_49 : decode prog_1_method_15_code 49 = .ok (.aaload, 1) := F_CM_power_0.2.2.2.2.2.2.2.2.2.2.2.2.2.2.2.2.2.2.2.2.2.2.2.2.2.2.1
theorem d_CM_power_50 : decode prog_1_method_15_code 50 = .ok (.invokevirtual 214, 3) := F_CM_power_0.2.2.2.2.2.2.2.2.2.2.2.2.2.2.2.2.2.2.2.2.2.2.2.2.2.2.2.1
theorem d_CM_power_53 : decode prog_1_method_15_code 53 = .ok (.ifCond .ne (6), 3) := F_CM_power_0.2.2.2.2.2.2.2.2.2.2.2.2.2.2.2.2.2.2.2.2.2.2.2.2.2.2.2.2.1
theorem d_CM_power_56 : decode prog_1_method_15_code 56 = .ok (.bipush (-2), 2) := F_CM_power_0.2.2.2.2.2.2.2.2.2.2.2.2.2.2.2.2.2.2.2.2.2.2.2.2.2.2.2.2.2.1
theorem d_CM_power_58 : decode prog_1_method_15_code 58 = .ok (.ireturn, 1) := F_CM_power_0.2.2.2.2.2.2.2.2.2.2.2.2.2.2.2.2.2.2.2.2.2.2.2.2.2.2.2.2.2.2.1
theorem d_CM_power_59 : decode prog_1_method_15_code 59 = .ok (.iinc 3 (1), 3) := F_CM_power_0.2.2.2.2.2.2.2.2.2.2.2.2.2.2.2.2.2.2.2.2.2.2.2.2.2.2.2.2.2.2.2.1
theorem F_CM_power_62 : Jvm.Free.DS.Facts prog_1_method_15_code 62 [(.goto (-27), 3), (.aload_n 0, 1), (.aload_n 0, 1), (.getfield 72, 3), (.invokevirtual 188, 3), (.ireturn, 1)] := Jvm.Free.DS.facts 62 _ (by decide +kernel) (by decide +kernel)
theorem d_CM_power_62 : decode prog_1_method_15_code 62 = .ok (.goto (-27), 3) := F_CM_power_62.1
theorem d_CM_power_65 : decode prog_1_method_15_code 65 = .ok (.aload_n 0, 1) := F_CM_power_62.2.1
theorem d_CM_power_66 : decode prog_1_method_15_code 66 = .ok (.aload_n 0, 1) := F_CM_power_62.2.2.1
theorem d_CM_power_67 : decode prog_1_method_15_code 67 = .ok (.getfield 72, 3) := F_CM_power_62.2.2.2.1
theorem d_CM_power_70 : decode prog_1_method_15_code 70 = .ok (.invokevirtual 188, 3) := F_CM_power_62.2.2.2.2.1
theorem d_CM_power_73 : decode prog_1_method_15_code 73 = .ok (.ireturn, 1) := F_CM_power_62.2.2.2.2.2.1
theorem F_CM_rise_0 : Jvm.Free.DS.Facts prog_1_method_86_code 0 [(.aload_n 1, 1), (.aload_n 0, 1), (.getfield 72, 3), (.aload_n 0, 1), (.getfield 65, 3), (.invokestatic 196, 3), (.aload_n 0, 1), (.getfield 65, 3), (.aload_n 0, 1), (.getfield 72, 3), (.invokestatic 209, 3), (.aload_n 0, 1), (.getfield 72, 3), (.invokestatic 272, 3), (.ifCond .ne (7), 3), (.iconst 1, 1), (.goto (4), 3), (.iconst 0, 1), (.ireturn, 1)] := Jvm.Free.DS.facts 0 _ (by decide +kernel) (by decide +kernel)
theorem d_CM_rise_0 : decode prog_1_method_86_code 0 = .ok (.aload_n 1, 1) := F_CM_rise_0.1
theorem d_CM_rise_1 : decode prog_1_method_86_code 1 = .ok (.aload_n 0, 1) := F_CM_rise_0.2.1
theorem d_CM_rise_2 : decode prog_1_method_86_code 2 = .ok (.getfield 72, 3) := F_CM_rise_0.2.2.1
theorem d_CM_rise_5 : decode prog_1_method_86_code 5 = .ok (.aload_n 0, 1) := F_CM_rise_0.2.2.2.1
theorem d_CM_rise_6 : decode prog_1_method_86_code 6 = .ok (.getfield 65, 3) := F_CM_rise_0.2.2.2.2.1
theorem d_CM_rise_9 : decode prog_1_method_86_code 9 = .ok (.invokestatic 196, 3) := F_CM_rise_0.2.2.2.2.2.1
theorem d_CM_rise_12 : decode prog_1_method_86_code 12 = .ok (.aload_n 0, 1) := F_CM_rise_0.2.2.2.2.2.2.1
theorem d_CM_rise_13 : decode prog_1_method_86_code 13 = .ok (.getfield 65, 3) := F_CM_rise_0.2.2.2.2.2.2.2.1
theorem d_CM_rise_16 : decode prog_1_method_86_code 16 = .ok (.aload_n 0, 1) := F_CM_rise_0.2.2.2.2.2.2.2.2.1
theorem d_CM_rise_17 : decode prog_1_method_86_code 17 = .ok (.getfield 72, 3) := F_CM_rise_0.2.2.2.2.2.2.2.2.2.1
theorem d_CM_rise_20 : decode prog_1_method_86_code 20 = .ok (.invokestatic 209, 3) := F_CM_rise_0.2.2.2.2.2.2.2.2.2.2.1
theorem d_CM_rise_23 : decode prog_1_method_86_code 23 = .ok (.aload_n 0, 1) := F_CM_rise_0.2.2.2.2.2.2.2.2.2.2.2.1
theorem d_CM_rise_24 : decode prog_1_method_86_code 24 = .ok (.getfield 72, 3) := F_CM_rise_0.2.2.2.2.2.2.2.2.2.2.2.2.1
theorem d_CM_rise_27 : decode prog_1_method_86_code 27 = .ok (.invokestatic 272, 3) := F_CM_rise_0.2.2.2.2.2.2.2.2.2.2.2.2.2.1
theorem d_CM_rise_30 : decode prog_1_method_86_code 30 = .ok (.ifCond .ne (7), 3) := F_CM_rise_0.2.2.2.2.2.2.2.2.2.2.2.2.2.2.1
theorem d_CM_rise_33 : decode prog_1_method_86_code 33 = .ok (.iconst 1, 1) := F_CM_rise_0.2.2.2.2.2.2.2.2.2.2.2.2.2.2.2.1
theorem d_CM_rise_34 : decode prog_1_method_86_code 34 = .ok (.goto (4), 3) := F_CM_rise_0.2.2.2.2.2.2.2.2.2.2.2.2.2.2.2.2.1
theorem d_CM_rise_37 : decode prog_1_method_86_code 37 = .ok (.iconst 0, 1) := F_CM_rise_0.2.2.2.2.2.2.2.2.2.2.2.2.2.2.2.2.2.1
theorem d_CM_rise_38 : decode prog_1_method_86_code 38 = .ok (.ireturn, 1) := F_CM_rise_0.2.2.2.2.2.2.2.2.2.2.2.2.2.2.2.2.2.2.1
theorem F_CM_drop_0 : Jvm.Free.DS.Facts prog_1_method_16_code 0 [(.aload_n 0, 1), (.getfield 12, 3), (.iload_n 1, 1), (.invokevirtual 151, 3), (.ifCond .ne (5), 3), (.iconst (-1), 1), (.ireturn, 1), (.aload_n 0, 1), (.getfield 47, 3), (.iload_n 1, 1), (.aload_n 0, 1), (.getfield 12, 3), (.getfield 157, 3), (.iload_n 1, 1), (.aaload, 1), (.invokevirtual 218, 3), (.aload_n 0, 1), (.getfield 12, 3), (.iload_n 1, 1), (.invokevirtual 222, 3), (.aload_n 0, 1), (.getfield 12, 3), (.getfield 225, 3), (.ireturn, 1)] := Jvm.Free.DS.facts 0 _ (by decide +kernel) (by decide +kernel)
theorem d_CM_drop_0 : decode prog_1_method_16_code 0 = .ok (.aload_n 0, 1) := F_CM_drop_0.1
theorem d_CM_drop_1 : decode prog_1_method_16_code 1 = .ok (.getfield 12, 3) := F_CM_drop_0.2.1
theorem d_CM_drop_4 : decode prog_1_method_16_code 4 = .ok (.iload_n 1, 1) := F_CM_drop_0.2.2.1
theorem d_CM_drop_5 : decode prog_1_method_16_code 5 = .ok (.invokevirtual 151, 3) := F_CM_drop_0.2.2.2.1
theorem d_CM_drop_8 : decode prog_1_method_16_code 8 = .ok (.ifCond .ne (5), 3) := F_CM_drop_0.2.2.2.2.1
theorem d_CM_drop_11 : decode prog_1_method_16_code 11 = .ok (.iconst (-1), 1) := F_CM_drop_0.2.2.2.2.2.1
theorem d_CM_drop_12 : decode prog_1_method_16_code 12 = .ok (.ireturn, 1) := F_CM_drop_0.2.2.2.2.2.2.1
theorem d_CM_drop_13 : decode prog_1_method_16_code 13 = .ok (.aload_n 0, 1) := F_CM_drop_0.2.2.2.2.2.2.2.1
theorem d_CM_drop_14 : decode prog_1_method_16_code 14 = .ok (.getfield 47, 3) := F_CM_drop_0.2.2.2.2.2.2.2.2.1
theorem d_CM_drop_17 : decode prog_1_method_16_code 17 = .ok (.iload_n 1, 1) := F_CM_drop_0.2.2.2.2.2.2.2.2.2.1
theorem d_CM_drop_18 : decode prog_1_method_16_code 18 = .ok (.aload_n 0, 1) := F_CM_drop_0.2.2.2.2.2.2.2.2.2.2.1
theorem d_CM_drop_19 : decode prog_1_method_16_code 19 = .ok (.getfield 12, 3) := F_CM_drop_0.2.2.2.2.2.2.2.2.2.2.2.1
theorem d_CM_drop_22 : decode prog_1_method_16_code 22 = .ok (.getfield 157, 3) := F_CM_drop_0.2.2.2.2.2.2.2.2.2.2.2.2.1
theorem d_CM_drop_25 : decode prog_1_method_16_code 25 = .ok (.iload_n 1, 1) := F_CM_drop_0.2.2.2.2.2.2.2.2.2.2.2.2.2.1
theorem d_CM_drop_26 : decode prog_1_method_16_code 26 = .ok (.aaload, 1) := F_CM_drop_0.2.2.2.2.2.2.2.2.2.2.2.2.2.2.1
theorem d_CM_drop_27 : decode prog_1_method_16_code 27 = .ok (.invokevirtual 218, 3) := F_CM_drop_0.2.2.2.2.2.2.2.2.2.2.2.2.2.2.2.1
theorem d_CM_drop_30 : decode prog_1_method_16_code 30 = .ok (.aload_n 0, 1) := F_CM_drop_0.2.2.2.2.2.2.2.2.2.2.2.2.2.2.2.2.1
theorem d_CM_drop_31 : decode prog_1_method_16_code 31 = .ok (.getfield 12, 3) := F_CM_drop_0.2.2.2.2.2.2.2.2.2.2.2.2.2.2.2.2.2.1
theorem d_CM_drop_34 : decode prog_1_method_16_code 34 = .ok (.iload_n 1, 1) := F_CM_drop_0.2.2.2.2.2.2.2.2.2.2.2.2.2.2.2.2.2.2.1
theorem d_CM_drop_35 : decode prog_1_method_16_code 35 = .ok (.invokevirtual 222, 3) := F_CM_drop_0.2.2.2.2.2.2.2.2.2.2.2.2.2.2.2.2.2.2.2.1
theorem d_CM_drop_38 : decode prog_1_method_16_code 38 = .ok (.aload_n 0, 1) := F_CM_drop_0.2.2.2.2.2.2.2.2.2.2.2.2.2.2.2.2.2.2.2.2.1
theorem d_CM_drop_39 : decode prog_1_method_16_code 39 = .ok (.getfield 12, 3) := F_CM_drop_0.2.2.2.2.2.2.2.2.2.2.2.2.2.2.2.2.2.2.2.2.2.1
theorem d_CM_drop_42 : decode prog_1_method_16_code 42 = .ok (.getfield 225, 3) := F_CM_drop_0.2.2.2.2.2.2.2.2.2.2.2.2.2.2.2.2.2.2.2.2.2.2.1
theorem d_CM_drop_45 : decode prog_1_method_16_code 45 = .ok (.ireturn, 1) := F_CM_drop_0.2.2.2.2.2.2.2.2.2.2.2.2.2.2.2.2.2.2.2.2.2.2.2.1
theorem F_Past_dropped_0 : Jvm.Free.DS.Facts prog_5_method_5_code 0 [(.aload_n 0, 1), (.invokevirtual 27, 3), (.istore_n 3, 1), (.aload_n 0, 1), (.getfield 9, 3), (.iload_n 3, 1), (.iconst 1, 1), (.iastore, 1), (.aload_n 0, 1), (.getfield 15, 3), (.iload_n 3, 1), (.iload_n 1, 1), (.iastore, 1), (.aload_n 2, 1), (.aload_n 0, 1), (.getfield 20, 3), (.iload_n 3, 1), (.aaload, 1), (.invokestatic 31, 3), (.return_, 1)] := Jvm.Free.DS.facts 0 _ (by decide +kernel) (by decide +kernel)
theorem d_Past_dropped_0 : decode prog_5_method_5_code 0 = .ok (.aload_n 0, 1) := F_Past_dropped_0.1
theorem d_Past_dropped_1 : decode prog_5_method_5_code 1 = .ok (.invokevirtual 27, 3) := F_Past_dropped_0.2.1
theorem d_Past_dropped_4 : decode prog_5_method_5_code 4 = .ok (.istore_n 3, 1) := F_Past_dropped_0.2.2.1
theorem d_Past_dropped_5 : decode prog_5_method_5_code 5 = .ok (.aload_n 0, 1) := F_Past_dropped_0.2.2.2.1
theorem d_Past_dropped_6 : decode prog_5_method_5_code 6 = .ok (.getfield 9, 3) := F_Past_dropped_0.2.2.2.2.1
theorem d_Past_dropped_9 : decode prog_5_method_5_code 9 = .ok (.iload_n 3, 1) := F_Past_dropped_0.2.2.2.2.2.1
theorem d_Past_dropped_10 : decode prog_5_method_5_code 10 = .ok (.iconst 1, 1) := F_Past_dropped_0.2.2.2.2.2.2.1
theorem d_Past_dropped_11 : decode prog_5_method_5_code 11 = .ok (.iastore, 1) := F_Past_dropped_0.2.2.2.2.2.2.2.1
theorem d_Past_dropped_12 : decode prog_5_method_5_code 12 = .ok (.aload_n 0, 1) := F_Past_dropped_0.2.2.2.2.2.2.2.2.1
theorem d_Past_dropped_13 : decode prog_5_method_5_code 13 = .ok (.getfield 15, 3) := F_Past_dropped_0.2.2.2.2.2.2.2.2.2.1
theorem d_Past_dropped_16 : decode prog_5_method_5_code 16 = .ok (.iload_n 3, 1) := F_Past_dropped_0.2.2.2.2.2.2.2.2.2.2.1
theorem d_Past_dropped_17 : decode prog_5_method_5_code 17 = .ok (.iload_n 1, 1) := F_Past_dropped_0.2.2.2.2.2.2.2.2.2.2.2.1
theorem d_Past_dropped_18 : decode prog_5_method_5_code 18 = .ok (.iastore, 1) := F_Past_dropped_0.2.2.2.2.2.2.2.2.2.2.2.2.1
theorem d_Past_dropped_19 : decode prog_5_method_5_code 19 = .ok (.aload_n 2, 1) := F_Past_dropped_0.2.2.2.2.2.2.2.2.2.2.2.2.2.1
theorem d_Past_dropped_20 : decode prog_5_method_5_code 20 = .ok (.aload_n 0, 1) := F_Past_dropped_0.2.2.2.2.2.2.2.2.2.2.2.2.2.2.1
theorem d_Past_dropped_21 : decode prog_5_method_5_code 21 = .ok (.getfield 20, 3) := F_Past_dropped_0.2.2.2.2.2.2.2.2.2.2.2.2.2.2.2.1
theorem d_Past_dropped_24 : decode prog_5_method_5_code 24 = .ok (.iload_n 3, 1) := F_Past_dropped_0.2.2.2.2.2.2.2.2.2.2.2.2.2.2.2.2.1
theorem d_Past_dropped_25 : decode prog_5_method_5_code 25 = .ok (.aaload, 1) := F_Past_dropped_0.2.2.2.2.2.2.2.2.2.2.2.2.2.2.2.2.2.1
theorem d_Past_dropped_26 : decode prog_5_method_5_code 26 = .ok (.invokestatic 31, 3) := F_Past_dropped_0.2.2.2.2.2.2.2.2.2.2.2.2.2.2.2.2.2.2.1
theorem d_Past_dropped_29 : decode prog_5_method_5_code 29 = .ok (.return_, 1) := F_Past_dropped_0.2.2.2.2.2.2.2.2.2.2.2.2.2.2.2.2.2.2.2.1
theorem F_Plane_removeMap_0 : Jvm.Free.DS.Facts prog_6_method_7_code 0 [(.aload_n 0, 1), (.iload_n 1, 1), (.invokevirtual 45, 3), (.ifCond .eq (48), 3), (.iload_n 1, 1), (.istore_n 2, 1), (.iload_n 2, 1), (.aload_n 0, 1), (.getfield 33, 3), (.iconst 1, 1), (.isub, 1), (.if_icmp .ge (26), 3), (.aload_n 0, 1), (.getfield 19, 3), (.iload_n 2, 1), (.iconst 1, 1), (.iadd, 1), (.aaload, 1), (.aload_n 0, 1), (.getfield 19, 3), (.iload_n 2, 1), (.aaload, 1), (.invokestatic 39, 3), (.iinc 2 (1), 3), (.goto (-30), 3), (.aload_n 0, 1), (.dup, 1), (.getfield 33, 3), (.iconst 1, 1), (.isub, 1), (.putfield 33, 3), (.return_, 1)] := Jvm.Free.DS.facts 0 _ (by decide +kernel) (by decide +kernel)
theorem d_Plane_removeMap_0 : decode prog_6_method_7_code 0 = .ok (.aload_n 0, 1) := F_Plane_removeMap_0.1
theorem d_Plane_removeMap_1 : decode prog_6_method_7_code 1 = .ok (.iload_n 1, 1) := F_Plane_removeMap_0.2.1
theorem d_Plane_removeMap_2 : decode prog_6_method_7_code 2 = .ok (.invokevirtual 45, 3) := F_Plane_removeMap_0.2.2.1
theorem d_Plane_removeMap_5 : decode prog_6_method_7_code 5 = .ok (.ifCond .eq (48), 3) := F_Plane_removeMap_0.2.2.2.1
theorem d_Plane_removeMap_8 : decode prog_6_method_7_code 8 = .ok (.iload_n 1, 1) := F_Plane_removeMap_0.2.2.2.2.1
theorem d_Plane_removeMap_9 : decode prog_6_method_7_code 9 = .ok (.istore_n 2, 1) := F_Plane_removeMap_0.2.2.2.2.2.1
theorem d_Plane_removeMap_10 : decode prog_6_method_7_code 10 = .ok (.iload_n 2, 1) := F_Plane_removeMap_0.2.2.2.2.2.2.1
theorem d_Plane_removeMap_11 : decode prog_6_method_7_code 11 = .ok (.aload_n 0, 1) := F_Plane_removeMap_0.2.2.2.2.2.2.2.1
theorem d_Plane_removeMap_12 : decode prog_6_method_7_code 12 = .ok (.getfield 33, 3) := F_Plane_removeMap_0.2.2.2.2.2.2.2.2.1
theorem d_Plane_removeMap_15 : decode prog_6_method_7_code 15 = .ok (.iconst 1, 1) := F_Plane_removeMap_0.2.2.2.2.2.2.2.2.2.1
theorem d_Plane_removeMap_16 : decode prog_6_method_7_code 16 = .ok (.isub, 1) := F_Plane_removeMap_0.2.2.2.2.2.2.2.2.2.2.1
theorem d_Plane_removeMap_17 : decode prog_6_method_7_code 17 = .ok (.if_icmp .ge (26), 3) := F_Plane_removeMap_0.2.2.2.2.2.2.2.2.2.2.2.1
theorem d_Plane_removeMap_20 : decode prog_6_method_7_code 20 = .ok (.aload_n 0, 1) := F_Plane_removeMap_0.2.2.2.2.2.2.2.2.2.2.2.2.1
theorem d_Plane_removeMap_21 : decode prog_6_method_7_code 21 = .ok (.getfield 19, 3) := F_Plane_removeMap_0.2.2.2.2.2.2.2.2.2.2.2.2.2.1
theorem d_Plane_removeMap_24 : decode prog_6_method_7_code 24 = .ok (.iload_n 2, 1) := F_Plane_removeMap_0.2.2.2.2.2.2.2.2.2.2.2.2.2.2.1
theorem d_Plane_removeMap_25 : decode prog_6_method_7_code 25 = .ok (.iconst 1, 1) := F_Plane_removeMap_0.2.2.2.2.2.2.2.2.2.2.2.2.2.2.2.1
theorem d_Plane_removeMap_26 : decode prog_6_method_7_code 26 = .ok (.iadd, 1) := F_Plane_removeMap_0.2.2.2.2.2.2.2.2.2.2.2.2.2.2.2.2.1
theorem d_Plane_removeMap_27 : decode prog_6_method_7_code 27 = .ok (.aaload, 1) := F_Plane_removeMap_0.2.2.2.2.2.2.2.2.2.2.2.2.2.2.2.2.2.1
theorem d_Plane_removeMap_28 : decode prog_6_method_7_code 28 = .ok (.aload_n 0, 1) := F_Plane_removeMap_0.2.2.2.2.2.2.2.2.2.2.2.2.2.2.2.2.2.2.1
theorem d_Plane_removeMap_29 : decode prog_6_method_7_code 29 = .ok (.getfield 19, 3) := F_Plane_removeMap_0.2.2.2.2.2.2.2.2.2.2.2.2.2.2.2.2.2.2.2.1
theorem d_Plane_removeMap_32 : decode prog_6_method_7_code 32 = .ok (.iload_n 2, 1) := F_Plane_removeMap_0.2.2.2.2.2.2.2.2.2.2.2.2.2.2.2.2.2.2.2.2.1
theorem d_Plane_removeMap_33 : decode prog_6_method_7_code 33 = .ok (.aaload, 1) := F_Plane_removeMap_0.2.2.2.2.2.2.2.2.2.2.2.2.2.2.2.2.2.2.2.2.2.1
theorem d_Plane_removeMap_34 : decode prog_6_method_7_code 34 = .ok (.invokestatic 39, 3) := F_Plane_removeMap_0.2.2.2.2.2.2.2.2.2.2.2.2.2.2.2.2.2.2.2.2.2.2.1
theorem d_Plane_removeMap_37 : decode prog_6_method_7_code 37 = .ok (.iinc 2 (1), 3) := F_Plane_removeMap_0.2.2.2.2.2.2.2.2.2.2.2.2.2.2.2.2.2.2.2.2.2.2.2.1
theorem d_Plane_removeMap_40 : decode prog_6_method_7_code 40 = .ok (.goto (-30), 3) := F_Plane_removeMap_0.2.2.2.2.2.2.2.2.2.2.2.2.2.2.2.2.2.2.2.2.2.2.2.2.1
theorem d_Plane_removeMap_43 : decode prog_6_method_7_code 43 = .ok (.aload_n 0, 1) := F_Plane_removeMap_0.2.2.2.2.2.2.2.2.2.2.2.2.2.2.2.2.2.2.2.2.2.2.2.2.2.1
theorem d_Plane_removeMap_44 : decode prog_6_method_7_code 44 = .ok (.dup, 1) := F_Plane_removeMap_0.2.2.2.2.2.2.2.2.2.2.2.2.2.2.2.2.2.2.2.2.2.2.2.2.2.2.1
theorem d_Plane_removeMap_45 : decode prog_6_method_7_code 45 = .ok (.getfield 33, 3) := F_Plane_removeMap_0.2.2.2.2.2.2.2.2.2.2.2.2.2.2.2.2.2.2.2.2.2.2.2.2.2.2.2.1
theorem d_Plane_removeMap_48 : decode prog_6_method_7_code 48 = .ok (.iconst 1, 1) := F_Plane_removeMap_0.2.2.2.2.2.2.2.2.2.2.2.2.2.2.2.2.2.2.2.2.2.2.2.2.2.2.2.2.1
theorem d_Plane_removeMap_49 : decode prog_6_method_7_code 49 = .ok (.isub, 1) := F_Plane_removeMap_0.2.2.2.2.2.2.2.2.2.2.2.2.2.2.2.2.2.2.2.2.2.2.2.2.2.2.2.2.2.1
theorem d_Plane_removeMap_50 : decode prog_6_method_7_code 50 = .ok (.putfield 33, 3) := F_Plane_removeMap_0.2.2.2.2.2.2.2.2.2.2.2.2.2.2.2.2.2.2.2.2.2.2.2.2.2.2.2.2.2.2.1
theorem d_Plane_removeMap_53 : decode prog_6_method_7_code 53 = .ok (.return_, 1) := F_Plane_removeMap_0.2.2.2.2.2.2.2.2.2.2.2.2.2.2.2.2.2.2.2.2.2.2.2.2.2.2.2.2.2.2.2.1
theorem F_CM_tell_0 : Jvm.Free.DS.Facts prog_1_method_17_code 0 [(.iload_n 1, 1), (.iload_n 2, 1), (.iload_n 3, 1), (.invokestatic 228, 3), (.ifCond .ne (5), 3), (.iconst (-1), 1), (.ireturn, 1), (.aload_n 0, 1), (.getfield 12, 3), (.getfield 232, 3), (.bipush (8), 2), (.if_icmp .eq (12), 3), (.iload_n 1, 1), (.iload_n 2, 1), (.iload_n 3, 1), (.invokestatic 235, 3), (.ifCond .ne (6), 3), (.bipush (-2), 2), (.ireturn, 1), (.iload_n 1, 1), (.i2l, 1), (.iload_n 2, 1), (.i2l, 1), (.iload_n 3, 1), (.i2l, 1), (.aload_n 0, 1), (.getfield 75, 3), (.invokestatic 238, 3), (.aload_n 0, 1), (.getfield 12, 3), (.aload_n 0, 1), (.getfield 75, 3)] := Jvm.Free.DS.facts 0 _ (by decide +kernel) (by decide +kernel)
theorem d_CM_tell_0 : decode prog_1_method_17_code 0 = .ok (.iload_n 1, 1) := F_CM_tell_0.1
theorem d_CM_tell_1 : decode prog_1_method_17_code 1 = .ok (.iload_n 2, 1) := F_CM_tell_0.2.1
theorem d_CM_tell_2 : decode prog_1_method_17_code 2 = .ok (.iload_n 3, 1) := F_CM_tell_0.2.2.1
theorem d_CM_tell_3 : decode prog_1_method_17_code 3 = .ok (.invokestatic 228, 3) := F_CM_tell_0.2.2.2.1
theorem d_CM_tell_6 : decode prog_1_method_17_code 6 = .ok (.ifCond .ne (5), 3) := F_CM_tell_0.2.2.2.2.1
theorem d_CM_tell_9 : decode prog_1_method_17_code 9 = .ok (.iconst (-1), 1) := F_CM_tell_0.2.2.2.2.2.1
theorem d_CM_tell_10 : decode prog_1_method_17_code 10 = .ok (.ireturn, 1) := F_CM_tell_0.2.2.2.2.2.2.1
theorem d_CM_tell_11 : decode prog_1_method_17_code 11 = .ok (.aload_n 0, 1) := F_CM_tell_0.2.2.2.2.2.2.2.1
theorem d_CM_tell_12 : decode prog_1_method_17_code 12 = .ok (.getfield 12, 3) := F_CM_tell_0.2.2.2.2.2.2.2.2.1
theorem d_CM_tell_15 : decode prog_1_method_17_code 15 = .ok (.getfield 232, 3) := F_CM_tell_0.2.2.2.2.2.2.2.2.2.1
theorem d_CM_tell_18 : decode prog_1_method_17_code 18 = .ok (.bipush (8), 2) := F_CM_tell_0.2.2.2.2.2.2.2.2.2.2.1
theorem d_CM_tell_20 : decode prog_1_method_17_code 20 = .ok (.if_icmp .eq (12), 3) := F_CM_tell_0.2.2.2.2.2.2.2.2.2.2.2.1
theorem d_CM_tell_23 : decode prog_1_method_17_code 23 = .ok (.iload_n 1, 1) := F_CM_tell_0.2.2.2.2.2.2.2.2.2.2.2.2.1
theorem d_CM_tell_24 : decode prog_1_method_17_code 24 = .ok (.iload_n 2, 1) := F_CM_tell_0.2.2.2.2.2.2.2.2.2.2.2.2.2.1
theorem d_CM_tell_25 : decode prog_1_method_17_code 25 = .ok (.iload_n 3, 1) := F_CM_tell_0.2.2.2.2.2.2.2.2.2.2.2.2.2.2.1
theorem d_CM_tell_26 : decode prog_1_method_17_code 26 = .ok (.invokestatic 235, 3) := F_CM_tell_0.2.2.2.2.2.2.2.2.2.2.2.2.2.2.2.1
theorem d_CM_tell_29 : decode prog_1_method_17_code 29 = .ok (.ifCond .ne (6), 3) := F_CM_tell_0.2.2.2.2.2.2.2.2.2.2.2.2.2.2.2.2.1
theorem d_CM_tell_32 : decode prog_1_method_17_code 32 = .ok (.bipush (-2), 2) := F_CM_tell_0.2.2.2.2.2.2.2.2.2.2.2.2.2.2.2.2.2.1
theorem d_CM_tell_34 : decode prog_1_method_17_code 34 = .ok (.ireturn, 1) := F_CM_tell_0.2.2.2.2.2.2.2.2.2.2.2.2.2.2.2.2.2.2.1
theorem d_CM_tell_35 : decode prog_1_method_17_code 35 = .ok (.iload_n 1, 1) := F_CM_tell_0.2.2.2.2.2.2.2.2.2.2.2.2.2.2.2.2.2.2.2.1
theorem d_CM_tell_36 : decode prog_1_method_17_code 36 = .ok (.i2l, 1) := F_CM_tell_0.2.2.2.2.2.2.2.2.2.2.2.2.2.2.2.2.2.2.2.2.1
theorem d_CM_tell_37 : decode prog_1_method_17_code 37 = .ok (.iload_n 2, 1) := F_CM_tell_0.2.2.2.2.2.2.2.2.2.2.2.2.2.2.2.2.2.2.2.2.2.1
theorem d_CM_tell_38 : decode prog_1_method_17_code 38 = .ok (.i2l, 1) := F_CM_tell_0.2.2.2.2.2.2.2.2.2.2.2.2.2.2.2.2.2.2.2.2.2.2.1
theorem d_CM_tell_39 : decode prog_1_method_17_code 39 = .ok (.iload_n 3, 1) := F_CM_tell_0.2.2.2.2.2.2.2.2.2.2.2.2.2.2.2.2.2.2.2.2.2.2.2.1
theorem d_CM_tell_40 : decode prog_1_method_17_code 40 = .ok (.i2l, 1) := F_CM_tell_0.2.2.2.2.2.2.2.2.2.2.2.2.2.2.2.2.2.2.2.2.2.2.2.2.1
theorem d_CM_tell_41 : decode prog_1_method_17_code 41 = .ok (.aload_n 0, 1) := F_CM_tell_0.2.2.2.2.2.2.2.2.2.2.2.2.2.2.2.2.2.2.2.2.2.2.2.2.2.1
theorem d_CM_tell_42 : decode prog_1_method_17_code 42 = .ok (.getfield 75, 3) := F_CM_tell_0.2.2.2.2.2.2.2.2.2.2.2.2.2.2.2.2.2.2.2.2.2.2.2.2.2.2.1
theorem d_CM_tell_45 : decode prog_1_method_17_code 45 = .ok (.invokestatic 238, 3) := F_CM_tell_0.2.2.2.2.2.2.2.2.2.2.2.2.2.2.2.2.2.2.2.2.2.2.2.2.2.2.2.1
theorem d_CM_tell_48 : decode prog_1_method_17_code 48 = .ok (.aload_n 0, 1) := F_CM_tell_0.2.2.2.2.2.2.2.2.2.2.2.2.2.2.2.2.2.2.2.2.2.2.2.2.2.2.2.2.1
theorem d_CM_tell_49 : decode prog_1_method_17_code 49 = .ok (.getfield 12, 3) := F_CM_tell_0.2.2.2.2.2.2.2.2.2.2.2.2.2.2.2.2.2.2.2.2.2.2.2.2.2.2.2.2.2.1
theorem d_CM_tell_52 : decode prog_1_method_17_code 52 = .ok (.aload_n 0, 1) := F_CM_tell_0.2.2.2.2.2.2.2.2.2.2.2.2.2.2.2.2.2.2.2.2.2.2.2.2.2.2.2.2.2.2.1
theorem d_CM_tell_53 : decode prog_1_method_17_code 53 = .ok (.getfield 75, 3) := F_CM_tell_0.2.2.2.2.2.2.2.2.2.2.2.2.2.2.2.2.2.2.2.2.2.2.2.2.2.2.2.2.2.2.2.1
theorem F_CM_tell_56 : Jvm.Free.DS.Facts prog_1_method_17_code 56 [(.invokevirtual 241, 3), (.aload_n 0, 1), (.getfield 47, 3), (.invokevirtual 245, 3), (.aload_n 0, 1), (.getfield 12, 3), (.getfield 232, 3), (.iconst 1, 1), (.isub, 1), (.ireturn, 1)] := Jvm.Free.DS.facts 56 _ (by decide +kernel) (by decide +kernel)
theorem d_CM_tell_56 : decode prog_1_method_17_code 56 = .ok (.invokevirtual 241, 3) := F_CM_tell_56.1
theorem d_CM_tell_59 : decode prog_1_method_17_code 59 = .ok (.aload_n 0, 1) := F_CM_tell_56.2.1
theorem d_CM_tell_60 : decode prog_1_method_17_code 60 = .ok (.getfield 47, 3) := F_CM_tell_56.2.2.1
theorem d_CM_tell_63 : decode prog_1_method_17_code 63 = .ok (.invokevirtual 245, 3) := F_CM_tell_56.2.2.2.1
theorem d_CM_tell_66 : decode prog_1_method_17_code 66 = .ok (.aload_n 0, 1) := F_CM_tell_56.2.2.2.2.1
theorem d_CM_tell_67 : decode prog_1_method_17_code 67 = .ok (.getfield 12, 3) := F_CM_tell_56.2.2.2.2.2.1
theorem d_CM_tell_70 : decode prog_1_method_17_code 70 = .ok (.getfield 232, 3) := F_CM_tell_56.2.2.2.2.2.2.1
theorem d_CM_tell_73 : decode prog_1_method_17_code 73 = .ok (.iconst 1, 1) := F_CM_tell_56.2.2.2.2.2.2.2.1
theorem d_CM_tell_74 : decode prog_1_method_17_code 74 = .ok (.isub, 1) := F_CM_tell_56.2.2.2.2.2.2.2.2.1
theorem d_CM_tell_75 : decode prog_1_method_17_code 75 = .ok (.ireturn, 1) := F_CM_tell_56.2.2.2.2.2.2.2.2.2.1
theorem F_CM_areNumbers_0 : Jvm.Free.DS.Facts prog_1_method_79_code 0 [(.iload_n 0, 1), (.invokestatic 443, 3), (.ifCond .eq (21), 3), (.iload_n 1, 1), (.invokestatic 443, 3), (.ifCond .eq (14), 3), (.iload_n 2, 1), (.invokestatic 443, 3), (.ifCond .eq (7), 3), (.iconst 1, 1), (.goto (4), 3), (.iconst 0, 1), (.ireturn, 1)] := Jvm.Free.DS.facts 0 _ (by decide +kernel) (by decide +kernel)
theorem d_CM_areNumbers_0 : decode prog_1_method_79_code 0 = .ok (.iload_n 0, 1) := F_CM_areNumbers_0.1
theorem d_CM_areNumbers_1 : decode prog_1_method_79_code 1 = .ok (.invokestatic 443, 3) := F_CM_areNumbers_0.2.1
theorem d_CM_areNumbers_4 : decode prog_1_method_79_code 4 = .ok (.ifCond .eq (21), 3) := F_CM_areNumbers_0.2.2.1
theorem d_CM_areNumbers_7 : decode prog_1_method_79_code 7 = .ok (.iload_n 1, 1) := F_CM_areNumbers_0.2.2.2.1
theorem d_CM_areNumbers_8 : decode prog_1_method_79_code 8 = .ok (.invokestatic 443, 3) := F_CM_areNumbers_0.2.2.2.2.1
theorem d_CM_areNumbers_11 : decode prog_1_method_79_code 11 = .ok (.ifCond .eq (14), 3) := F_CM_areNumbers_0.2.2.2.2.2.1
theorem d_CM_areNumbers_14 : decode prog_1_method_79_code 14 = .ok (.iload_n 2, 1) := F_CM_areNumbers_0.2.2.2.2.2.2.1
theorem d_CM_areNumbers_15 : decode prog_1_method_79_code 15 = .ok (.invokestatic 443, 3) := F_CM_areNumbers_0.2.2.2.2.2.2.2.1
theorem d_CM_areNumbers_18 : decode prog_1_method_79_code 18 = .ok (.ifCond .eq (7), 3) := F_CM_areNumbers_0.2.2.2.2.2.2.2.2.1
theorem d_CM_areNumbers_21 : decode prog_1_method_79_code 21 = .ok (.iconst 1, 1) := F_CM_areNumbers_0.2.2.2.2.2.2.2.2.2.1
theorem d_CM_areNumbers_22 : decode prog_1_method_79_code 22 = .ok (.goto (4), 3) := F_CM_areNumbers_0.2.2.2.2.2.2.2.2.2.2.1
theorem d_CM_areNumbers_25 : decode prog_1_method_79_code 25 = .ok (.iconst 0, 1) := F_CM_areNumbers_0.2.2.2.2.2.2.2.2.2.2.2.1
theorem d_CM_areNumbers_26 : decode prog_1_method_79_code 26 = .ok (.ireturn, 1) := F_CM_areNumbers_0.2.2.2.2.2.2.2.2.2.2.2.2.1
theorem F_CM_isNumber_0 : Jvm.Free.DS.Facts prog_1_method_78_code 0 [(.iload_n 0, 1), (.sipush (-9999), 3), (.if_icmp .lt (14), 3), (.iload_n 0, 1), (.sipush (9999), 3), (.if_icmp .gt (7), 3), (.iconst 1, 1), (.goto (4), 3), (.iconst 0, 1), (.ireturn, 1)] := Jvm.Free.DS.facts 0 _ (by decide +kernel) (by decide +kernel)
theorem d_CM_isNumber_0 : decode prog_1_method_78_code 0 = .ok (.iload_n 0, 1) := F_CM_isNumber_0.1
theorem d_CM_isNumber_1 : decode prog_1_method_78_code 1 = .ok (.sipush (-9999), 3) := F_CM_isNumber_0.2.1
theorem d_CM_isNumber_4 : decode prog_1_method_78_code 4 = .ok (.if_icmp .lt (14), 3) := F_CM_isNumber_0.2.2.1
theorem d_CM_isNumber_7 : decode prog_1_method_78_code 7 = .ok (.iload_n 0, 1) := F_CM_isNumber_0.2.2.2.1
theorem d_CM_isNumber_8 : decode prog_1_method_78_code 8 = .ok (.sipush (9999), 3) := F_CM_isNumber_0.2.2.2.2.1
theorem d_CM_isNumber_11 : decode prog_1_method_78_code 11 = .ok (.if_icmp .gt (7), 3) := F_CM_isNumber_0.2.2.2.2.2.1
theorem d_CM_isNumber_14 : decode prog_1_method_78_code 14 = .ok (.iconst 1, 1) := F_CM_isNumber_0.2.2.2.2.2.2.1
theorem d_CM_isNumber_15 : decode prog_1_method_78_code 15 = .ok (.goto (4), 3) := F_CM_isNumber_0.2.2.2.2.2.2.2.1
theorem d_CM_isNumber_18 : decode prog_1_method_78_code 18 = .ok (.iconst 0, 1) := F_CM_isNumber_0.2.2.2.2.2.2.2.2.1
theorem d_CM_isNumber_19 : decode prog_1_method_78_code 19 = .ok (.ireturn, 1) := F_CM_isNumber_0.2.2.2.2.2.2.2.2.2.1
theorem F_CM_isSomething_0 : Jvm.Free.DS.Facts prog_1_method_80_code 0 [(.iload_n 0, 1), (.ifCond .ne (11), 3), (.iload_n 1, 1), (.ifCond .ne (7), 3), (.iload_n 2, 1), (.ifCond .eq (7), 3), (.iconst 1, 1), (.goto (4), 3), (.iconst 0, 1), (.ireturn, 1)] := Jvm.Free.DS.facts 0 _ (by decide +kernel) (by decide +kernel)
theorem d_CM_isSomething_0 : decode prog_1_method_80_code 0 = .ok (.iload_n 0, 1) := F_CM_isSomething_0.1
theorem d_CM_isSomething_1 : decode prog_1_method_80_code 1 = .ok (.ifCond .ne (11), 3) := F_CM_isSomething_0.2.1
theorem d_CM_isSomething_4 : decode prog_1_method_80_code 4 = .ok (.iload_n 1, 1) := F_CM_isSomething_0.2.2.1
theorem d_CM_isSomething_5 : decode prog_1_method_80_code 5 = .ok (.ifCond .ne (7), 3) := F_CM_isSomething_0.2.2.2.1
theorem d_CM_isSomething_8 : decode prog_1_method_80_code 8 = .ok (.iload_n 2, 1) := F_CM_isSomething_0.2.2.2.2.1
theorem d_CM_isSomething_9 : decode prog_1_method_80_code 9 = .ok (.ifCond .eq (7), 3) := F_CM_isSomething_0.2.2.2.2.2.1
theorem d_CM_isSomething_12 : decode prog_1_method_80_code 12 = .ok (.iconst 1, 1) := F_CM_isSomething_0.2.2.2.2.2.2.1
theorem d_CM_isSomething_13 : decode prog_1_method_80_code 13 = .ok (.goto (4), 3) := F_CM_isSomething_0.2.2.2.2.2.2.2.1
theorem d_CM_isSomething_16 : decode prog_1_method_80_code 16 = .ok (.iconst 0, 1) := F_CM_isSomething_0.2.2.2.2.2.2.2.2.1
theorem d_CM_isSomething_17 : decode prog_1_method_80_code 17 = .ok (.ireturn, 1) := F_CM_isSomething_0.2.2.2.2.2.2.2.2.2.1
theorem F_Past_told_0 : Jvm.Free.DS.Facts prog_5_method_4_code 0 [(.aload_n 0, 1), (.getfield 9, 3), (.aload_n 0, 1), (.invokevirtual 27, 3), (.iconst 2, 1), (.iastore, 1), (.return_, 1)] := Jvm.Free.DS.facts 0 _ (by decide +kernel) (by decide +kernel)
theorem d_Past_told_0 : decode prog_5_method_4_code 0 = .ok (.aload_n 0, 1) := F_Past_told_0.1
theorem d_Past_told_1 : decode prog_5_method_4_code 1 = .ok (.getfield 9, 3) := F_Past_told_0.2.1
theorem d_Past_told_4 : decode prog_5_method_4_code 4 = .ok (.aload_n 0, 1) := F_Past_told_0.2.2.1
theorem d_Past_told_5 : decode prog_5_method_4_code 5 = .ok (.invokevirtual 27, 3) := F_Past_told_0.2.2.2.1
theorem d_Past_told_8 : decode prog_5_method_4_code 8 = .ok (.iconst 2, 1) := F_Past_told_0.2.2.2.2.1
theorem d_Past_told_9 : decode prog_5_method_4_code 9 = .ok (.iastore, 1) := F_Past_told_0.2.2.2.2.2.1
theorem d_Past_told_10 : decode prog_5_method_4_code 10 = .ok (.return_, 1) := F_Past_told_0.2.2.2.2.2.2.1
theorem F_CM_moves_0 : Jvm.Free.DS.Facts prog_1_method_18_code 0 [(.aload_n 0, 1), (.getfield 12, 3), (.iload_n 1, 1), (.invokevirtual 151, 3), (.ifCond .ne (5), 3), (.iconst (-1), 1), (.ireturn, 1), (.iconst 0, 1), (.istore_n 2, 1), (.iload_n 2, 1), (.aload_n 0, 1), (.getfield 12, 3), (.getfield 232, 3), (.if_icmp .ge (51), 3), (.aload_n 0, 1), (.getfield 12, 3), (.getfield 157, 3), (.iload_n 1, 1), (.aaload, 1), (.aload_n 0, 1), (.getfield 12, 3), (.getfield 163, 3), (.iload_n 2, 1), (.aaload, 1), (.aload_n 0, 1), (.getfield 92, 3), (.iload_n 2, 1), (.aaload, 1), (.invokestatic 248, 3), (.aload_n 0, 1), (.getfield 92, 3), (.iload_n 2, 1)] := Jvm.Free.DS.facts 0 _ (by decide +kernel) (by decide +kernel)
theorem d_CM_moves_0 : decode prog_1_method_18_code 0 = .ok (.aload_n 0, 1) := F_CM_moves_0.1
theorem d_CM_moves_1 : decode prog_1_method_18_code 1 = .ok (.getfield 12, 3) := F_CM_moves_0.2.1
theorem d_CM_moves_4 : decode prog_1_method_18_code 4 = .ok (.iload_n 1, 1) := F_CM_moves_0.2.2.1
theorem d_CM_moves_5 : decode prog_1_method_18_code 5 = .ok (.invokevirtual 151, 3) := F_CM_moves_0.2.2.2.1
theorem d_CM_moves_8 : decode prog_1_method_18_code 8 = .ok (.ifCond .ne (5), 3) := F_CM_moves_0.2.2.2.2.1
theorem d_CM_moves_11 : decode prog_1_method_18_code 11 = .ok (.iconst (-1), 1) := F_CM_moves_0.2.2.2.2.2.1
theorem d_CM_moves_12 : decode prog_1_method_18_code 12 = .ok (.ireturn, 1) := F_CM_moves_0.2.2.2.2.2.2.1
theorem d_CM_moves_13 : decode prog_1_method_18_code 13 = .ok (.iconst 0, 1) := F_CM_moves_0.2.2.2.2.2.2.2.1
theorem d_CM_moves_14 : decode prog_1_method_18_code 14 = .ok (.istore_n 2, 1) := F_CM_moves_0.2.2.2.2.2.2.2.2.1
theorem d_CM_moves_15 : decode prog_1_method_18_code 15 = .ok (.iload_n 2, 1) := F_CM_moves_0.2.2.2.2.2.2.2.2.2.1
theorem d_CM_moves_16 : decode prog_1_method_18_code 16 = .ok (.aload_n 0, 1) := F_CM_moves_0.2.2.2.2.2.2.2.2.2.2.1
theorem d_CM_moves_17 : decode prog_1_method_18_code 17 = .ok (.getfield 12, 3) := F_CM_moves_0.2.2.2.2.2.2.2.2.2.2.2.1
theorem d_CM_moves_20 : decode prog_1_method_18_code 20 = .ok (.getfield 232, 3) := F_CM_moves_0.2.2.2.2.2.2.2.2.2.2.2.2.1
theorem d_CM_moves_23 : decode prog_1_method_18_code 23 = .ok (.if_icmp .ge (51), 3) := F_CM_moves_0.2.2.2.2.2.2.2.2.2.2.2.2.2.1
theorem d_CM_moves_26 : decode prog_1_method_18_code 26 = .ok (.aload_n 0, 1) := F_CM_moves_0.2.2.2.2.2.2.2.2.2.2.2.2.2.2.1
theorem d_CM_moves_27 : decode prog_1_method_18_code 27 = .ok (.getfield 12, 3) := F_CM_moves_0.2.2.2.2.2.2.2.2.2.2.2.2.2.2.2.1
theorem d_CM_moves_30 : decode prog_1_method_18_code 30 = .ok (.getfield 157, 3) := F_CM_moves_0.2.2.2.2.2.2.2.2.2.2.2.2.2.2.2.2.1
theorem d_CM_moves_33 : decode prog_1_method_18_code 33 = .ok (.iload_n 1, 1) := F_CM_moves_0.2.2.2.2.2.2.2.2.2.2.2.2.2.2.2.2.2.1
theorem d_CM_moves_34 : decode prog_1_method_18_code 34 = .ok (.aaload, 1) := F_CM_moves_0.2.2.2.2.2.2.2.2.2.2.2.2.2.2.2.2.2.2.1
theorem d_CM_moves_35 : decode prog_1_method_18_code 35 = .ok (.aload_n 0, 1) := F_CM_moves_0.2.2.2.2.2.2.2.2.2.2.2.2.2.2.2.2.2.2.2.1
theorem d_CM_moves_36 : decode prog_1_method_18_code 36 = .ok (.getfield 12, 3) := F_CM_moves_0.2.2.2.2.2.2.2.2.2.2.2.2.2.2.2.2.2.2.2.2.1
theorem d_CM_moves_39 : decode prog_1_method_18_code 39 = .ok (.getfield 163, 3) := F_CM_moves_0.2.2.2.2.2.2.2.2.2.2.2.2.2.2.2.2.2.2.2.2.2.1
theorem d_CM_moves_42 : decode prog_1_method_18_code 42 = .ok (.iload_n 2, 1) := F_CM_moves_0.2.2.2.2.2.2.2.2.2.2.2.2.2.2.2.2.2.2.2.2.2.2.1
theorem d_CM_moves_43 : decode prog_1_method_18_code 43 = .ok (.aaload, 1) := F_CM_moves_0.2.2.2.2.2.2.2.2.2.2.2.2.2.2.2.2.2.2.2.2.2.2.2.1
theorem d_CM_moves_44 : decode prog_1_method_18_code 44 = .ok (.aload_n 0, 1) := F_CM_moves_0.2.2.2.2.2.2.2.2.2.2.2.2.2.2.2.2.2.2.2.2.2.2.2.2.1
theorem d_CM_moves_45 : decode prog_1_method_18_code 45 = .ok (.getfield 92, 3) := F_CM_moves_0.2.2.2.2.2.2.2.2.2.2.2.2.2.2.2.2.2.2.2.2.2.2.2.2.2.1
theorem d_CM_moves_48 : decode prog_1_method_18_code 48 = .ok (.iload_n 2, 1) := F_CM_moves_0.2.2.2.2.2.2.2.2.2.2.2.2.2.2.2.2.2.2.2.2.2.2.2.2.2.2.1
theorem d_CM_moves_49 : decode prog_1_method_18_code 49 = .ok (.aaload, 1) := F_CM_moves_0.2.2.2.2.2.2.2.2.2.2.2.2.2.2.2.2.2.2.2.2.2.2.2.2.2.2.2.1
theorem d_CM_moves_50 : decode prog_1_method_18_code 50 = .ok (.invokestatic 248, 3) := F_CM_moves_0.2.2.2.2.2.2.2.2.2.2.2.2.2.2.2.2.2.2.2.2.2.2.2.2.2.2.2.2.1
theorem d_CM_moves_53 : decode prog_1_method_18_code 53 = .ok (.aload_n 0, 1) := F_CM_moves_0.2.2.2.2.2.2.2.2.2.2.2.2.2.2.2.2.2.2.2.2.2.2.2.2.2.2.2.2.2.1
theorem d_CM_moves_54 : decode prog_1_method_18_code 54 = .ok (.getfield 92, 3) := F_CM_moves_0.2.2.2.2.2.2.2.2.2.2.2.2.2.2.2.2.2.2.2.2.2.2.2.2.2.2.2.2.2.2.1
theorem d_CM_moves_57 : decode prog_1_method_18_code 57 = .ok (.iload_n 2, 1) := F_CM_moves_0.2.2.2.2.2.2.2.2.2.2.2.2.2.2.2.2.2.2.2.2.2.2.2.2.2.2.2.2.2.2.2.1
theorem F_CM_moves_58 : Jvm.Free.DS.Facts prog_1_method_18_code 58 [(.aaload, 1), (.invokestatic 251, 3), (.ifCond .ne (6), 3), (.bipush (-2), 2), (.ireturn, 1), (.iinc 2 (1), 3), (.goto (-56), 3), (.aload_n 0, 1), (.getfield 47, 3), (.aload_n 0, 1), (.getfield 12, 3), (.getfield 163, 3), (.invokevirtual 254, 3), (.iconst 0, 1), (.istore_n 2, 1), (.iload_n 2, 1), (.aload_n 0, 1), (.getfield 12, 3), (.getfield 232, 3), (.if_icmp .ge (27), 3), (.aload_n 0, 1), (.getfield 92, 3), (.iload_n 2, 1), (.aaload, 1), (.aload_n 0, 1), (.getfield 12, 3), (.getfield 163, 3), (.iload_n 2, 1), (.aaload, 1), (.invokestatic 209, 3), (.iinc 2 (1), 3), (.goto (-32), 3)] := Jvm.Free.DS.facts 58 _ (by decide +kernel) (by decide +kernel)
theorem d_CM_moves_58 : decode prog_1_method_18_code 58 = .ok (.aaload, 1) := F_CM_moves_58.1
theorem d_CM_moves_59 : decode prog_1_method_18_code 59 = .ok (.invokestatic 251, 3) := F_CM_moves_58.2.1
theorem d_CM_moves_62 : decode prog_1_method_18_code 62 = .ok (.ifCond .ne (6), 3) := F_CM_moves_58.2.2.1
theorem d_CM_moves_65 : decode prog_1_method_18_code 65 = .ok (.bipush (-2), 2) := F_CM_moves_58.2.2.2.1
theorem d_CM_moves_67 : decode prog_1_method_18_code 67 = .ok (.ireturn, 1) := F_CM_moves_58.2.2.2.2.1
theorem d_CM_moves_68 : decode prog_1_method_18_code 68 = .ok (.iinc 2 (1), 3) := F_CM_moves_58.2.2.2.2.2.1
theorem d_CM_moves_71 : decode prog_1_method_18_code 71 = .ok (.goto (-56), 3) := F_CM_moves_58.2.2.2.2.2.2.1
theorem d_CM_moves_74 : decode prog_1_method_18_code 74 = .ok (.aload_n 0, 1) := F_CM_moves_58.2.2.2.2.2.2.2.1
theorem d_CM_moves_75 : decode prog_1_method_18_code 75 = .ok (.getfield 47, 3) := F_CM_moves_58.2.2.2.2.2.2.2.2.1
theorem d_CM_moves_78 : decode prog_1_method_18_code 78 = .ok (.aload_n 0, 1) := F_CM_moves_58.2.2.2.2.2.2.2.2.2.1
theorem d_CM_moves_79 : decode prog_1_method_18_code 79 = .ok (.getfield 12, 3) := F_CM_moves_58.2.2.2.2.2.2.2.2.2.2.1
theorem d_CM_moves_82 : decode prog_1_method_18_code 82 = .ok (.getfield 163, 3) := F_CM_moves_58.2.2.2.2.2.2.2.2.2.2.2.1
theorem d_CM_moves_85 : decode prog_1_method_18_code 85 = .ok (.invokevirtual 254, 3) := F_CM_moves_58.2.2.2.2.2.2.2.2.2.2.2.2.1
theorem d_CM_moves_88 : decode prog_1_method_18_code 88 = .ok (.iconst 0, 1) := F_CM_moves_58.2.2.2.2.2.2.2.2.2.2.2.2.2.1
theorem d_CM_moves_89 : decode prog_1_method_18_code 89 = .ok (.istore_n 2, 1) := F_CM_moves_58.2.2.2.2.2.2.2.2.2.2.2.2.2.2.1
theorem d_CM_moves_90 : decode prog_1_method_18_code 90 = .ok (.iload_n 2, 1) := F_CM_moves_58.2.2.2.2.2.2.2.2.2.2.2.2.2.2.2.1
theorem d_CM_moves_91 : decode prog_1_method_18_code 91 = .ok (.aload_n 0, 1) := F_CM_moves_58.2.2.2.2.2.2.2.2.2.2.2.2.2.2.2.2.1
theorem d_CM_moves_92 : decode prog_1_method_18_code 92 = .ok (.getfield 12, 3) := F_CM_moves_58.2.2.2.2.2.2.2.2.2.2.2.2.2.2.2.2.2.1
theorem d_CM_moves_95 : decode prog_1_method_18_code 95 = .ok (.getfield 232, 3) := F_CM_moves_58.2.2.2.2.2.2.2.2.2.2.2.2.2.2.2.2.2.2.1
theorem d_CM_moves_98 : decode prog_1_method_18_code 98 = .ok (.if_icmp .ge (27), 3) := F_CM_moves_58.2.2.2.2.2.2.2.2.2.2.2.2.2.2.2.2.2.2.2.1
theorem d_CM_moves_101 : decode prog_1_method_18_code 101 = .ok (.aload_n 0, 1) := F_CM_moves_58.2.2.2.2.2.2.2.2.2.2.2.2.2.2.2.2.2.2.2.2.1
theorem d_CM_moves_102 : decode prog_1_method_18_code 102 = .ok (.getfield 92, 3) := F_CM_moves_58.2.2.2.2.2.2.2.2.2.2.2.2.2.2.2.2.2.2.2.2.2.1
theorem d_CM_moves_105 : decode prog_1_method_18_code 105 = .ok (.iload_n 2, 1) := F_CM_moves_58.2.2.2.2.2.2.2.2.2.2.2.2.2.2.2.2.2.2.2.2.2.2.1
theorem d_CM_moves_106 : decode prog_1_method_18_code 106 = .ok (.aaload, 1) := F_CM_moves_58.2.2.2.2.2.2.2.2.2.2.2.2.2.2.2.2.2.2.2.2.2.2.2.1
theorem d_CM_moves_107 : decode prog_1_method_18_code 107 = .ok (.aload_n 0, 1) := F_CM_moves_58.2.2.2.2.2.2.2.2.2.2.2.2.2.2.2.2.2.2.2.2.2.2.2.2.1
theorem d_CM_moves_108 : decode prog_1_method_18_code 108 = .ok (.getfield 12, 3) := F_CM_moves_58.2.2.2.2.2.2.2.2.2.2.2.2.2.2.2.2.2.2.2.2.2.2.2.2.2.1
theorem d_CM_moves_111 : decode prog_1_method_18_code 111 = .ok (.getfield 163, 3) := F_CM_moves_58.2.2.2.2.2.2.2.2.2.2.2.2.2.2.2.2.2.2.2.2.2.2.2.2.2.2.1
theorem d_CM_moves_114 : decode prog_1_method_18_code 114 = .ok (.iload_n 2, 1) := F_CM_moves_58.2.2.2.2.2.2.2.2.2.2.2.2.2.2.2.2.2.2.2.2.2.2.2.2.2.2.2.1
theorem d_CM_moves_115 : decode prog_1_method_18_code 115 = .ok (.aaload, 1) := F_CM_moves_58.2.2.2.2.2.2.2.2.2.2.2.2.2.2.2.2.2.2.2.2.2.2.2.2.2.2.2.2.1
theorem d_CM_moves_116 : decode prog_1_method_18_code 116 = .ok (.invokestatic 209, 3) := F_CM_moves_58.2.2.2.2.2.2.2.2.2.2.2.2.2.2.2.2.2.2.2.2.2.2.2.2.2.2.2.2.2.1
theorem d_CM_moves_119 : decode prog_1_method_18_code 119 = .ok (.iinc 2 (1), 3) := F_CM_moves_58.2.2.2.2.2.2.2.2.2.2.2.2.2.2.2.2.2.2.2.2.2.2.2.2.2.2.2.2.2.2.1
theorem d_CM_moves_122 : decode prog_1_method_18_code 122 = .ok (.goto (-32), 3) := F_CM_moves_58.2.2.2.2.2.2.2.2.2.2.2.2.2.2.2.2.2.2.2.2.2.2.2.2.2.2.2.2.2.2.2.1
theorem F_CM_moves_125 : Jvm.Free.DS.Facts prog_1_method_18_code 125 [(.aload_n 0, 1), (.getfield 12, 3), (.getfield 232, 3), (.aload_n 0, 1), (.getfield 12, 3), (.invokevirtual 257, 3), (.isub, 1), (.ireturn, 1)] := Jvm.Free.DS.facts 125 _ (by decide +kernel) (by decide +kernel)
theorem d_CM_moves_125 : decode prog_1_method_18_code 125 = .ok (.aload_n 0, 1) := F_CM_moves_125.1
theorem d_CM_moves_126 : decode prog_1_method_18_code 126 = .ok (.getfield 12, 3) := F_CM_moves_125.2.1
theorem d_CM_moves_129 : decode prog_1_method_18_code 129 = .ok (.getfield 232, 3) := F_CM_moves_125.2.2.1
theorem d_CM_moves_132 : decode prog_1_method_18_code 132 = .ok (.aload_n 0, 1) := F_CM_moves_125.2.2.2.1
theorem d_CM_moves_133 : decode prog_1_method_18_code 133 = .ok (.getfield 12, 3) := F_CM_moves_125.2.2.2.2.1
theorem d_CM_moves_136 : decode prog_1_method_18_code 136 = .ok (.invokevirtual 257, 3) := F_CM_moves_125.2.2.2.2.2.1
theorem d_CM_moves_139 : decode prog_1_method_18_code 139 = .ok (.isub, 1) := F_CM_moves_125.2.2.2.2.2.2.1
theorem d_CM_moves_140 : decode prog_1_method_18_code 140 = .ok (.ireturn, 1) := F_CM_moves_125.2.2.2.2.2.2.2.1
theorem F_Maps_apply_0 : Jvm.Free.DS.Facts prog_3_method_4_code 0 [(.iconst 0, 1), (.istore_n 3, 1), (.iload_n 3, 1), (.iconst 3, 1), (.if_icmp .ge (45), 3), (.aload_n 2, 1), (.iload_n 3, 1), (.aload_n 0, 1), (.iconst 3, 1), (.iload_n 3, 1), (.imul, 1), (.laload, 1), (.aload_n 1, 1), (.iconst 0, 1), (.laload, 1), (.lmul, 1), (.aload_n 0, 1), (.iconst 3, 1), (.iload_n 3, 1), (.imul, 1), (.iconst 1, 1), (.iadd, 1), (.laload, 1), (.aload_n 1, 1), (.iconst 1, 1), (.laload, 1), (.lmul, 1), (.ladd, 1), (.aload_n 0, 1), (.iconst 3, 1), (.iload_n 3, 1), (.imul, 1)] := Jvm.Free.DS.facts 0 _ (by decide +kernel) (by decide +kernel)
theorem d_Maps_apply_0 : decode prog_3_method_4_code 0 = .ok (.iconst 0, 1) := F_Maps_apply_0.1
theorem d_Maps_apply_1 : decode prog_3_method_4_code 1 = .ok (.istore_n 3, 1) := F_Maps_apply_0.2.1
theorem d_Maps_apply_2 : decode prog_3_method_4_code 2 = .ok (.iload_n 3, 1) := F_Maps_apply_0.2.2.1
theorem d_Maps_apply_3 : decode prog_3_method_4_code 3 = .ok (.iconst 3, 1) := F_Maps_apply_0.2.2.2.1
theorem d_Maps_apply_4 : decode prog_3_method_4_code 4 = .ok (.if_icmp .ge (45), 3) := F_Maps_apply_0.2.2.2.2.1
theorem d_Maps_apply_7 : decode prog_3_method_4_code 7 = .ok (.aload_n 2, 1) := F_Maps_apply_0.2.2.2.2.2.1
theorem d_Maps_apply_8 : decode prog_3_method_4_code 8 = .ok (.iload_n 3, 1) := F_Maps_apply_0.2.2.2.2.2.2.1
theorem d_Maps_apply_9 : decode prog_3_method_4_code 9 = .ok (.aload_n 0, 1) := F_Maps_apply_0.2.2.2.2.2.2.2.1
theorem d_Maps_apply_10 : decode prog_3_method_4_code 10 = .ok (.iconst 3, 1) := F_Maps_apply_0.2.2.2.2.2.2.2.2.1
theorem d_Maps_apply_11 : decode prog_3_method_4_code 11 = .ok (.iload_n 3, 1) := F_Maps_apply_0.2.2.2.2.2.2.2.2.2.1
theorem d_Maps_apply_12 : decode prog_3_method_4_code 12 = .ok (.imul, 1) := F_Maps_apply_0.2.2.2.2.2.2.2.2.2.2.1
theorem d_Maps_apply_13 : decode prog_3_method_4_code 13 = .ok (.laload, 1) := F_Maps_apply_0.2.2.2.2.2.2.2.2.2.2.2.1
theorem d_Maps_apply_14 : decode prog_3_method_4_code 14 = .ok (.aload_n 1, 1) := F_Maps_apply_0.2.2.2.2.2.2.2.2.2.2.2.2.1
theorem d_Maps_apply_15 : decode prog_3_method_4_code 15 = .ok (.iconst 0, 1) := F_Maps_apply_0.2.2.2.2.2.2.2.2.2.2.2.2.2.1
theorem d_Maps_apply_16 : decode prog_3_method_4_code 16 = .ok (.laload, 1) := F_Maps_apply_0.2.2.2.2.2.2.2.2.2.2.2.2.2.2.1
theorem d_Maps_apply_17 : decode prog_3_method_4_code 17 = .ok (.lmul, 1) := F_Maps_apply_0.2.2.2.2.2.2.2.2.2.2.2.2.2.2.2.1
theorem d_Maps_apply_18 : decode prog_3_method_4_code 18 = .ok (.aload_n 0, 1) := F_Maps_apply_0.2.2.2.2.2.2.2.2.2.2.2.2.2.2.2.2.1
theorem d_Maps_apply_19 : decode prog_3_method_4_code 19 = .ok (.iconst 3, 1) := F_Maps_apply_0.2.2.2.2.2.2.2.2.2.2.2.2.2.2.2.2.2.1
theorem d_Maps_apply_20 : decode prog_3_method_4_code 20 = .ok (.iload_n 3, 1) := F_Maps_apply_0.2.2.2.2.2.2.2.2.2.2.2.2.2.2.2.2.2.2.1
theorem d_Maps_apply_21 : decode prog_3_method_4_code 21 = .ok (.imul, 1) := F_Maps_apply_0.2.2.2.2.2.2.2.2.2.2.2.2.2.2.2.2.2.2.2.1
theorem d_Maps_apply_22 : decode prog_3_method_4_code 22 = .ok (.iconst 1, 1) := F_Maps_apply_0.2.2.2.2.2.2.2.2.2.2.2.2.2.2.2.2.2.2.2.2.1
theorem d_Maps_apply_23 : decode prog_3_method_4_code 23 = .ok (.iadd, 1) := F_Maps_apply_0.2.2.2.2.2.2.2.2.2.2.2.2.2.2.2.2.2.2.2.2.2.1
theorem d_Maps_apply_24 : decode prog_3_method_4_code 24 = .ok (.laload, 1) := F_Maps_apply_0.2.2.2.2.2.2.2.2.2.2.2.2.2.2.2.2.2.2.2.2.2.2.1
theorem d_Maps_apply_25 : decode prog_3_method_4_code 25 = .ok (.aload_n 1, 1) := F_Maps_apply_0.2.2.2.2.2.2.2.2.2.2.2.2.2.2.2.2.2.2.2.2.2.2.2.1
theorem d_Maps_apply_26 : decode prog_3_method_4_code 26 = .ok (.iconst 1, 1) := F_Maps_apply_0.2.2.2.2.2.2.2.2.2.2.2.2.2.2.2.2.2.2.2.2.2.2.2.2.1
theorem d_Maps_apply_27 : decode prog_3_method_4_code 27 = .ok (.laload, 1) := F_Maps_apply_0.2.2.2.2.2.2.2.2.2.2.2.2.2.2.2.2.2.2.2.2.2.2.2.2.2.1
theorem d_Maps_apply_28 : decode prog_3_method_4_code 28 = .ok (.lmul, 1) := F_Maps_apply_0.2.2.2.2.2.2.2.2.2.2.2.2.2.2.2.2.2.2.2.2.2.2.2.2.2.2.1
theorem d_Maps_apply_29 : decode prog_3_method_4_code 29 = .ok (.ladd, 1) := F_Maps_apply_0.2.2.2.2.2.2.2.2.2.2.2.2.2.2.2.2.2.2.2.2.2.2.2.2.2.2.2.1
theorem d_Maps_apply_30 : decode prog_3_method_4_code 30 = .ok (.aload_n 0, 1) := F_Maps_apply_0.2.2.2.2.2.2.2.2.2.2.2.2.2.2.2.2.2.2.2.2.2.2.2.2.2.2.2.2.1
theorem d_Maps_apply_31 : decode prog_3_method_4_code 31 = .ok (.iconst 3, 1) := F_Maps_apply_0.2.2.2.2.2.2.2.2.2.2.2.2.2.2.2.2.2.2.2.2.2.2.2.2.2.2.2.2.2.1
theorem d_Maps_apply_32 : decode prog_3_method_4_code 32 = .ok (.iload_n 3, 1) := F_Maps_apply_0.2.2.2.2.2.2.2.2.2.2.2.2.2.2.2.2.2.2.2.2.2.2.2.2.2.2.2.2.2.2.1
theorem d_Maps_apply_33 : decode prog_3_method_4_code 33 = .ok (.imul, 1) := F_Maps_apply_0.2.2.2.2.2.2.2.2.2.2.2.2.2.2.2.2.2.2.2.2.2.2.2.2.2.2.2.2.2.2.2.1
theorem F_Maps_apply_34 : Jvm.Free.DS.Facts prog_3_method_4_code 34 [(.iconst 2, 1), (.iadd, 1), (.laload, 1), (.aload_n 1, 1), (.iconst 2, 1), (.laload, 1), (.lmul, 1), (.ladd, 1), (.lastore, 1), (.iinc 3 (1), 3), (.goto (-44), 3), (.aload_n 2, 1), (.invokestatic 17, 3), (.return_, 1)] := Jvm.Free.DS.facts 34 _ (by decide +kernel) (by decide +kernel)
theorem d_Maps_apply_34 : decode prog_3_method_4_code 34 = .ok (.iconst 2, 1) := F_Maps_apply_34.1
theorem d_Maps_apply_35 : decode prog_3_method_4_code 35 = .ok (.iadd, 1) := F_Maps_apply_34.2.1
theorem d_Maps_apply_36 : decode prog_3_method_4_code 36 = .ok (.laload, 1) := F_Maps_apply_34.2.2.1
theorem d_Maps_apply_37 : decode prog_3_method_4_code 37 = .ok (.aload_n 1, 1) := F_Maps_apply_34.2.2.2.1
theorem d_Maps_apply_38 : decode prog_3_method_4_code 38 = .ok (.iconst 2, 1) := F_Maps_apply_34.2.2.2.2.1
theorem d_Maps_apply_39 : decode prog_3_method_4_code 39 = .ok (.laload, 1) := F_Maps_apply_34.2.2.2.2.2.1
theorem d_Maps_apply_40 : decode prog_3_method_4_code 40 = .ok (.lmul, 1) := F_Maps_apply_34.2.2.2.2.2.2.1
theorem d_Maps_apply_41 : decode prog_3_method_4_code 41 = .ok (.ladd, 1) := F_Maps_apply_34.2.2.2.2.2.2.2.1
theorem d_Maps_apply_42 : decode prog_3_method_4_code 42 = .ok (.lastore, 1) := F_Maps_apply_34.2.2.2.2.2.2.2.2.1
theorem d_Maps_apply_43 : decode prog_3_method_4_code 43 = .ok (.iinc 3 (1), 3) := F_Maps_apply_34.2.2.2.2.2.2.2.2.2.1
theorem d_Maps_apply_46 : decode prog_3_method_4_code 46 = .ok (.goto (-44), 3) := F_Maps_apply_34.2.2.2.2.2.2.2.2.2.2.1
theorem d_Maps_apply_49 : decode prog_3_method_4_code 49 = .ok (.aload_n 2, 1) := F_Maps_apply_34.2.2.2.2.2.2.2.2.2.2.2.1
theorem d_Maps_apply_50 : decode prog_3_method_4_code 50 = .ok (.invokestatic 17, 3) := F_Maps_apply_34.2.2.2.2.2.2.2.2.2.2.2.2.1
theorem d_Maps_apply_53 : decode prog_3_method_4_code 53 = .ok (.return_, 1) := F_Maps_apply_34.2.2.2.2.2.2.2.2.2.2.2.2.2.1
theorem F_Rows_isNear_0 : Jvm.Free.DS.Facts prog_9_method_12_code 0 [(.aload_n 0, 1), (.invokestatic 38, 3), (.ldc2_w 42, 3), (.lcmp, 1), (.ifCond .gt (7), 3), (.iconst 1, 1), (.goto (4), 3), (.iconst 0, 1), (.ireturn, 1)] := Jvm.Free.DS.facts 0 _ (by decide +kernel) (by decide +kernel)
theorem d_Rows_isNear_0 : decode prog_9_method_12_code 0 = .ok (.aload_n 0, 1) := F_Rows_isNear_0.1
theorem d_Rows_isNear_1 : decode prog_9_method_12_code 1 = .ok (.invokestatic 38, 3) := F_Rows_isNear_0.2.1
theorem d_Rows_isNear_4 : decode prog_9_method_12_code 4 = .ok (.ldc2_w 42, 3) := F_Rows_isNear_0.2.2.1
theorem d_Rows_isNear_7 : decode prog_9_method_12_code 7 = .ok (.lcmp, 1) := F_Rows_isNear_0.2.2.2.1
theorem d_Rows_isNear_8 : decode prog_9_method_12_code 8 = .ok (.ifCond .gt (7), 3) := F_Rows_isNear_0.2.2.2.2.1
theorem d_Rows_isNear_11 : decode prog_9_method_12_code 11 = .ok (.iconst 1, 1) := F_Rows_isNear_0.2.2.2.2.2.1
theorem d_Rows_isNear_12 : decode prog_9_method_12_code 12 = .ok (.goto (4), 3) := F_Rows_isNear_0.2.2.2.2.2.2.1
theorem d_Rows_isNear_15 : decode prog_9_method_12_code 15 = .ok (.iconst 0, 1) := F_Rows_isNear_0.2.2.2.2.2.2.2.1
theorem d_Rows_isNear_16 : decode prog_9_method_12_code 16 = .ok (.ireturn, 1) := F_Rows_isNear_0.2.2.2.2.2.2.2.2.1
