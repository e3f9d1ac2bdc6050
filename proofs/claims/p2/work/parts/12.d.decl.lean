/-! declarations and decodings of methods (by program) -/
def M_String_length : pM := (⟨"java/lang/String", "length", "()I"⟩, prog_27_method_54_code, 1, some .int)
theorem co_String_length : CalOK M_String_length 0 := ⟨g_at 1158 (by decide +kernel) rfl, g_at 11 (by decide +kernel) rfl, by decide +kernel, by decide +kernel, by decide +kernel⟩
theorem pn_String_length : plainName M_String_length.1.cls = true := by decide +kernel
def M_String_charAt : pM := (⟨"java/lang/String", "charAt", "(I)C"⟩, prog_27_method_56_code, 2, some .char)
theorem co_String_charAt : CalOK M_String_charAt 1 := ⟨g_at 1640 (by decide +kernel) rfl, g_at 11 (by decide +kernel) rfl, by decide +kernel, by decide +kernel, by decide +kernel⟩
theorem pn_String_charAt : plainName M_String_charAt.1.cls = true := by decide +kernel
def M_MD_readQuad : pM := (⟨"CornerMapsModel", "readQuad", "()V"⟩, prog_12_method_17_code, 2, none)
theorem co_MD_readQuad : CalOK M_MD_readQuad 0 := ⟨g_at 1663 (by decide +kernel) rfl, g_at 13 (by decide +kernel) rfl, by decide +kernel, by decide +kernel, by decide +kernel⟩
theorem pn_MD_readQuad : plainName M_MD_readQuad.1.cls = true := by decide +kernel
def M_MD_readMap : pM := (⟨"CornerMapsModel", "readMap", "()V"⟩, prog_12_method_18_code, 4, none)
theorem co_MD_readMap : CalOK M_MD_readMap 0 := ⟨g_at 1698 (by decide +kernel) rfl, g_at 13 (by decide +kernel) rfl, by decide +kernel, by decide +kernel, by decide +kernel⟩
theorem pn_MD_readMap : plainName M_MD_readMap.1.cls = true := by decide +kernel
def M_MD_readPoint : pM := (⟨"CornerMapsModel", "readPoint", "()V"⟩, prog_12_method_19_code, 5, none)
theorem co_MD_readPoint : CalOK M_MD_readPoint 0 := ⟨g_at 1735 (by decide +kernel) rfl, g_at 13 (by decide +kernel) rfl, by decide +kernel, by decide +kernel, by decide +kernel⟩
theorem pn_MD_readPoint : plainName M_MD_readPoint.1.cls = true := by decide +kernel
def M_MD_wrong : pM := (⟨"CornerMapsModel", "wrong", "(I)V"⟩, prog_12_method_10_code, 2, none)
theorem co_MD_wrong : CalOK M_MD_wrong 1 := ⟨g_at 1667 (by decide +kernel) rfl, g_at 13 (by decide +kernel) rfl, by decide +kernel, by decide +kernel, by decide +kernel⟩
theorem pn_MD_wrong : plainName M_MD_wrong.1.cls = true := by decide +kernel
def M_MD_goOn : pM := (⟨"CornerMapsModel", "goOn", "()V"⟩, prog_12_method_11_code, 1, none)
theorem co_MD_goOn : CalOK M_MD_goOn 0 := ⟨g_at 1675 (by decide +kernel) rfl, g_at 13 (by decide +kernel) rfl, by decide +kernel, by decide +kernel, by decide +kernel⟩
theorem pn_MD_goOn : plainName M_MD_goOn.1.cls = true := by decide +kernel
def M_MD_isOther : pM := (⟨"CornerMapsModel", "isOther", "()Z"⟩, prog_12_method_12_code, 1, some .boolean)
theorem co_MD_isOther : CalOK M_MD_isOther 0 := ⟨g_at 1679 (by decide +kernel) rfl, g_at 13 (by decide +kernel) rfl, by decide +kernel, by decide +kernel, by decide +kernel⟩
theorem pn_MD_isOther : plainName M_MD_isOther.1.cls = true := by decide +kernel
def M_MD_quadNamed : pM := (⟨"CornerMapsModel", "quadNamed", "()I"⟩, prog_12_method_14_code, 2, some .int)
theorem co_MD_quadNamed : CalOK M_MD_quadNamed 0 := ⟨g_at 1683 (by decide +kernel) rfl, g_at 13 (by decide +kernel) rfl, by decide +kernel, by decide +kernel, by decide +kernel⟩
theorem pn_MD_quadNamed : plainName M_MD_quadNamed.1.cls = true := by decide +kernel
def M_MD_number : pM := (⟨"CornerMapsModel", "number", "(I)I"⟩, prog_12_method_13_code, 5, some .int)
theorem co_MD_number : CalOK M_MD_number 1 := ⟨g_at 1687 (by decide +kernel) rfl, g_at 13 (by decide +kernel) rfl, by decide +kernel, by decide +kernel, by decide +kernel⟩
theorem pn_MD_number : plainName M_MD_number.1.cls = true := by decide +kernel
def M_MD_isEnd : pM := (⟨"CornerMapsModel", "isEnd", "()Z"⟩, prog_12_method_16_code, 1, some .boolean)
theorem co_MD_isEnd : CalOK M_MD_isEnd 0 := ⟨g_at 1691 (by decide +kernel) rfl, g_at 13 (by decide +kernel) rfl, by decide +kernel, by decide +kernel, by decide +kernel⟩
theorem pn_MD_isEnd : plainName M_MD_isEnd.1.cls = true := by decide +kernel
def M_MD_areaOf : pM := (⟨"CornerMapsModel", "areaOf", "([IIIII)I"⟩, prog_12_method_34_code, 10, some .int)
theorem co_MD_areaOf : CalOK M_MD_areaOf 5 := ⟨g_at 1694 (by decide +kernel) rfl, g_at 13 (by decide +kernel) rfl, by decide +kernel, by decide +kernel, by decide +kernel⟩
theorem pn_MD_areaOf : plainName M_MD_areaOf.1.cls = true := by decide +kernel
def M_MD_wrongAt : pM := (⟨"CornerMapsModel", "wrongAt", "(II)V"⟩, prog_12_method_9_code, 3, none)
theorem co_MD_wrongAt : CalOK M_MD_wrongAt 2 := ⟨g_at 1671 (by decide +kernel) rfl, g_at 13 (by decide +kernel) rfl, by decide +kernel, by decide +kernel, by decide +kernel⟩
theorem pn_MD_wrongAt : plainName M_MD_wrongAt.1.cls = true := by decide +kernel
def M_MD_toldQuad : pM := (⟨"CornerMapsModel", "toldQuad", "()I"⟩, prog_12_method_15_code, 2, some .int)
theorem co_MD_toldQuad : CalOK M_MD_toldQuad 0 := ⟨g_at 1702 (by decide +kernel) rfl, g_at 13 (by decide +kernel) rfl, by decide +kernel, by decide +kernel, by decide +kernel⟩
theorem pn_MD_toldQuad : plainName M_MD_toldQuad.1.cls = true := by decide +kernel
def M_MD_laysMap : pM := (⟨"CornerMapsModel", "laysMap", "([III)V"⟩, prog_12_method_36_code, 4, none)
theorem co_MD_laysMap : CalOK M_MD_laysMap 3 := ⟨g_at 1706 (by decide +kernel) rfl, g_at 13 (by decide +kernel) rfl, by decide +kernel, by decide +kernel, by decide +kernel⟩
theorem pn_MD_laysMap : plainName M_MD_laysMap.1.cls = true := by decide +kernel
def M_MD_isLarge : pM := (⟨"CornerMapsModel", "isLarge", "()Z"⟩, prog_12_method_26_code, 2, some .boolean)
theorem co_MD_isLarge : CalOK M_MD_isLarge 0 := ⟨g_at 1726 (by decide +kernel) rfl, g_at 13 (by decide +kernel) rfl, by decide +kernel, by decide +kernel, by decide +kernel⟩
theorem pn_MD_isLarge : plainName M_MD_isLarge.1.cls = true := by decide +kernel
def M_MD_puts : pM := (⟨"CornerMapsModel", "puts", "([JI)V"⟩, prog_12_method_27_code, 4, none)
theorem co_MD_puts : CalOK M_MD_puts 2 := ⟨g_at 1731 (by decide +kernel) rfl, g_at 13 (by decide +kernel) rfl, by decide +kernel, by decide +kernel, by decide +kernel⟩
theorem pn_MD_puts : plainName M_MD_puts.1.cls = true := by decide +kernel
def M_MD_basis : pM := (⟨"CornerMapsModel", "basis", "([J[II)V"⟩, prog_12_method_35_code, 8, none)
theorem co_MD_basis : CalOK M_MD_basis 3 := ⟨g_at 1709 (by decide +kernel) rfl, g_at 13 (by decide +kernel) rfl, by decide +kernel, by decide +kernel, by decide +kernel⟩
theorem pn_MD_basis : plainName M_MD_basis.1.cls = true := by decide +kernel
def M_MD_reduces : pM := (⟨"CornerMapsModel", "reduces", "([J)V"⟩, prog_12_method_24_code, 6, none)
theorem co_MD_reduces : CalOK M_MD_reduces 1 := ⟨g_at 1712 (by decide +kernel) rfl, g_at 13 (by decide +kernel) rfl, by decide +kernel, by decide +kernel, by decide +kernel⟩
theorem pn_MD_reduces : plainName M_MD_reduces.1.cls = true := by decide +kernel
def M_MD_turnsRound : pM := (⟨"CornerMapsModel", "turnsRound", "([J[J)V"⟩, prog_12_method_33_code, 8, none)
theorem co_MD_turnsRound : CalOK M_MD_turnsRound 2 := ⟨g_at 1719 (by decide +kernel) rfl, g_at 13 (by decide +kernel) rfl, by decide +kernel, by decide +kernel, by decide +kernel⟩
theorem pn_MD_turnsRound : plainName M_MD_turnsRound.1.cls = true := by decide +kernel
def M_MD_multiplies : pM := (⟨"CornerMapsModel", "multiplies", "([J[J[J)V"⟩, prog_12_method_32_code, 5, none)
theorem co_MD_multiplies : CalOK M_MD_multiplies 3 := ⟨g_at 1722 (by decide +kernel) rfl, g_at 13 (by decide +kernel) rfl, by decide +kernel, by decide +kernel, by decide +kernel⟩
theorem pn_MD_multiplies : plainName M_MD_multiplies.1.cls = true := by decide +kernel
def M_MD_common : pM := (⟨"CornerMapsModel", "common", "(JJ)J"⟩, prog_12_method_23_code, 10, some .long)
theorem co_MD_common : CalOK M_MD_common 2 := ⟨g_at 1715 (by decide +kernel) rfl, g_at 13 (by decide +kernel) rfl, by decide +kernel, by decide +kernel, by decide +kernel⟩
theorem pn_MD_common : plainName M_MD_common.1.cls = true := by decide +kernel
def M_MD_laysThree : pM := (⟨"CornerMapsModel", "laysThree", "(JJJ)V"⟩, prog_12_method_25_code, 7, none)
theorem co_MD_laysThree : CalOK M_MD_laysThree 3 := ⟨g_at 1739 (by decide +kernel) rfl, g_at 13 (by decide +kernel) rfl, by decide +kernel, by decide +kernel, by decide +kernel⟩
theorem pn_MD_laysThree : plainName M_MD_laysThree.1.cls = true := by decide +kernel
def M_MD_putsPoint : pM := (⟨"CornerMapsModel", "putsPoint", "([JI)V"⟩, prog_12_method_28_code, 4, none)
theorem co_MD_putsPoint : CalOK M_MD_putsPoint 2 := ⟨g_at 1743 (by decide +kernel) rfl, g_at 13 (by decide +kernel) rfl, by decide +kernel, by decide +kernel, by decide +kernel⟩
theorem pn_MD_putsPoint : plainName M_MD_putsPoint.1.cls = true := by decide +kernel
def M_MD_fault : pM := (⟨"CornerMapsModel", "fault", "(I)I"⟩, prog_12_method_22_code, 2, some .int)
theorem co_MD_fault : CalOK M_MD_fault 1 := ⟨g_at 1747 (by decide +kernel) rfl, g_at 13 (by decide +kernel) rfl, by decide +kernel, by decide +kernel, by decide +kernel⟩
theorem pn_MD_fault : plainName M_MD_fault.1.cls = true := by decide +kernel
def M_MD_corner : pM := (⟨"CornerMapsModel", "corner", "(III)I"⟩, prog_12_method_42_code, 4, some .int)
theorem co_MD_corner : CalOK M_MD_corner 3 := ⟨g_at 1751 (by decide +kernel) rfl, g_at 13 (by decide +kernel) rfl, by decide +kernel, by decide +kernel, by decide +kernel⟩
theorem pn_MD_corner : plainName M_MD_corner.1.cls = true := by decide +kernel
def M_MD_isQuad : pM := (⟨"CornerMapsModel", "isQuad", "(I)Z"⟩, prog_12_method_37_code, 2, some .boolean)
theorem co_MD_isQuad : CalOK M_MD_isQuad 1 := ⟨g_at 1755 (by decide +kernel) rfl, g_at 13 (by decide +kernel) rfl, by decide +kernel, by decide +kernel, by decide +kernel⟩
theorem pn_MD_isQuad : plainName M_MD_isQuad.1.cls = true := by decide +kernel
def M_MD_map : pM := (⟨"CornerMapsModel", "map", "(III)I"⟩, prog_12_method_43_code, 4, some .int)
theorem co_MD_map : CalOK M_MD_map 3 := ⟨g_at 1759 (by decide +kernel) rfl, g_at 13 (by decide +kernel) rfl, by decide +kernel, by decide +kernel, by decide +kernel⟩
theorem pn_MD_map : plainName M_MD_map.1.cls = true := by decide +kernel
def M_MD_isMap : pM := (⟨"CornerMapsModel", "isMap", "(I)Z"⟩, prog_12_method_38_code, 2, some .boolean)
theorem co_MD_isMap : CalOK M_MD_isMap 1 := ⟨g_at 1763 (by decide +kernel) rfl, g_at 13 (by decide +kernel) rfl, by decide +kernel, by decide +kernel, by decide +kernel⟩
theorem pn_MD_isMap : plainName M_MD_isMap.1.cls = true := by decide +kernel
def M_MD_isThird : pM := (⟨"CornerMapsModel", "isThird", "(I)Z"⟩, prog_12_method_40_code, 1, some .boolean)
theorem co_MD_isThird : CalOK M_MD_isThird 1 := ⟨g_at 1766 (by decide +kernel) rfl, g_at 13 (by decide +kernel) rfl, by decide +kernel, by decide +kernel, by decide +kernel⟩
theorem pn_MD_isThird : plainName M_MD_isThird.1.cls = true := by decide +kernel
def M_MD_point : pM := (⟨"CornerMapsModel", "point", "(II)I"⟩, prog_12_method_44_code, 3, some .int)
theorem co_MD_point : CalOK M_MD_point 2 := ⟨g_at 1770 (by decide +kernel) rfl, g_at 13 (by decide +kernel) rfl, by decide +kernel, by decide +kernel, by decide +kernel⟩
theorem pn_MD_point : plainName M_MD_point.1.cls = true := by decide +kernel
def M_MD_isPoint : pM := (⟨"CornerMapsModel", "isPoint", "(I)Z"⟩, prog_12_method_39_code, 2, some .boolean)
theorem co_MD_isPoint : CalOK M_MD_isPoint 1 := ⟨g_at 1774 (by decide +kernel) rfl, g_at 13 (by decide +kernel) rfl, by decide +kernel, by decide +kernel, by decide +kernel⟩
theorem pn_MD_isPoint : plainName M_MD_isPoint.1.cls = true := by decide +kernel
def M_MD_pointOf : pM := (⟨"CornerMapsModel", "pointOf", "(II)J"⟩, prog_12_method_41_code, 3, some .long)
theorem co_MD_pointOf : CalOK M_MD_pointOf 2 := ⟨g_at 1778 (by decide +kernel) rfl, g_at 13 (by decide +kernel) rfl, by decide +kernel, by decide +kernel, by decide +kernel⟩
theorem pn_MD_pointOf : plainName M_MD_pointOf.1.cls = true := by decide +kernel
def M_MD_shape : pM := (⟨"CornerMapsModel", "shape", "(I)I"⟩, prog_12_method_48_code, 2, some .int)
theorem co_MD_shape : CalOK M_MD_shape 1 := ⟨g_at 1782 (by decide +kernel) rfl, g_at 13 (by decide +kernel) rfl, by decide +kernel, by decide +kernel, by decide +kernel⟩
theorem pn_MD_shape : plainName M_MD_shape.1.cls = true := by decide +kernel
def M_MD_dentOf : pM := (⟨"CornerMapsModel", "dentOf", "(I)I"⟩, prog_12_method_46_code, 3, some .int)
theorem co_MD_dentOf : CalOK M_MD_dentOf 1 := ⟨g_at 1786 (by decide +kernel) rfl, g_at 13 (by decide +kernel) rfl, by decide +kernel, by decide +kernel, by decide +kernel⟩
theorem pn_MD_dentOf : plainName M_MD_dentOf.1.cls = true := by decide +kernel
def M_MD_doCross : pM := (⟨"CornerMapsModel", "doCross", "(IIIII)Z"⟩, prog_12_method_47_code, 7, some .boolean)
theorem co_MD_doCross : CalOK M_MD_doCross 5 := ⟨g_at 1794 (by decide +kernel) rfl, g_at 13 (by decide +kernel) rfl, by decide +kernel, by decide +kernel, by decide +kernel⟩
theorem pn_MD_doCross : plainName M_MD_doCross.1.cls = true := by decide +kernel
def M_MD_isDent : pM := (⟨"CornerMapsModel", "isDent", "(II)Z"⟩, prog_12_method_45_code, 7, some .boolean)
theorem co_MD_isDent : CalOK M_MD_isDent 2 := ⟨g_at 1790 (by decide +kernel) rfl, g_at 13 (by decide +kernel) rfl, by decide +kernel, by decide +kernel, by decide +kernel⟩
theorem pn_MD_isDent : plainName M_MD_isDent.1.cls = true := by decide +kernel
def M_MD_dent : pM := (⟨"CornerMapsModel", "dent", "(I)I"⟩, prog_12_method_49_code, 2, some .int)
theorem co_MD_dent : CalOK M_MD_dent 1 := ⟨g_at 1798 (by decide +kernel) rfl, g_at 13 (by decide +kernel) rfl, by decide +kernel, by decide +kernel, by decide +kernel⟩
theorem pn_MD_dent : plainName M_MD_dent.1.cls = true := by decide +kernel
def M_MD_area : pM := (⟨"CornerMapsModel", "area", "(I)I"⟩, prog_12_method_50_code, 2, some .int)
theorem co_MD_area : CalOK M_MD_area 1 := ⟨g_at 1802 (by decide +kernel) rfl, g_at 13 (by decide +kernel) rfl, by decide +kernel, by decide +kernel, by decide +kernel⟩
theorem pn_MD_area : plainName M_MD_area.1.cls = true := by decide +kernel
def M_MD_undo : pM := (⟨"CornerMapsModel", "undo", "()I"⟩, prog_12_method_52_code, 2, some .int)
theorem co_MD_undo : CalOK M_MD_undo 0 := ⟨g_at 1807 (by decide +kernel) rfl, g_at 13 (by decide +kernel) rfl, by decide +kernel, by decide +kernel, by decide +kernel⟩
theorem pn_MD_undo : plainName M_MD_undo.1.cls = true := by decide +kernel
def M_MD_make : pM := (⟨"CornerMapsModel", "make", "(II)I"⟩, prog_12_method_54_code, 3, some .int)
theorem co_MD_make : CalOK M_MD_make 2 := ⟨g_at 1811 (by decide +kernel) rfl, g_at 13 (by decide +kernel) rfl, by decide +kernel, by decide +kernel, by decide +kernel⟩
theorem pn_MD_make : plainName M_MD_make.1.cls = true := by decide +kernel
def M_MD_comes : pM := (⟨"CornerMapsModel", "comes", "()I"⟩, prog_12_method_53_code, 2, some .int)
theorem co_MD_comes : CalOK M_MD_comes 0 := ⟨g_at 1815 (by decide +kernel) rfl, g_at 13 (by decide +kernel) rfl, by decide +kernel, by decide +kernel, by decide +kernel⟩
theorem pn_MD_comes : plainName M_MD_comes.1.cls = true := by decide +kernel
def M_MD_keeps : pM := (⟨"CornerMapsModel", "keeps", "()V"⟩, prog_12_method_51_code, 2, none)
theorem co_MD_keeps : CalOK M_MD_keeps 0 := ⟨g_at 1820 (by decide +kernel) rfl, g_at 13 (by decide +kernel) rfl, by decide +kernel, by decide +kernel, by decide +kernel⟩
theorem pn_MD_keeps : plainName M_MD_keeps.1.cls = true := by decide +kernel
def M_MD_square : pM := (⟨"CornerMapsModel", "square", "(II)I"⟩, prog_12_method_55_code, 4, some .int)
theorem co_MD_square : CalOK M_MD_square 2 := ⟨g_at 1824 (by decide +kernel) rfl, g_at 13 (by decide +kernel) rfl, by decide +kernel, by decide +kernel, by decide +kernel⟩
theorem pn_MD_square : plainName M_MD_square.1.cls = true := by decide +kernel
def M_MD_product : pM := (⟨"CornerMapsModel", "product", "(II)I"⟩, prog_12_method_57_code, 3, some .int)
theorem co_MD_product : CalOK M_MD_product 2 := ⟨g_at 1828 (by decide +kernel) rfl, g_at 13 (by decide +kernel) rfl, by decide +kernel, by decide +kernel, by decide +kernel⟩
theorem pn_MD_product : plainName M_MD_product.1.cls = true := by decide +kernel
def M_MD_laysProduct : pM := (⟨"CornerMapsModel", "laysProduct", "(II)V"⟩, prog_12_method_56_code, 3, none)
theorem co_MD_laysProduct : CalOK M_MD_laysProduct 2 := ⟨g_at 1832 (by decide +kernel) rfl, g_at 13 (by decide +kernel) rfl, by decide +kernel, by decide +kernel, by decide +kernel⟩
theorem pn_MD_laysProduct : plainName M_MD_laysProduct.1.cls = true := by decide +kernel
def M_MD_takes : pM := (⟨"CornerMapsModel", "takes", "([JI)V"⟩, prog_12_method_29_code, 4, none)
theorem co_MD_takes : CalOK M_MD_takes 2 := ⟨g_at 1836 (by decide +kernel) rfl, g_at 13 (by decide +kernel) rfl, by decide +kernel, by decide +kernel, by decide +kernel⟩
theorem pn_MD_takes : plainName M_MD_takes.1.cls = true := by decide +kernel
def M_MD_inverse : pM := (⟨"CornerMapsModel", "inverse", "(I)I"⟩, prog_12_method_59_code, 2, some .int)
theorem co_MD_inverse : CalOK M_MD_inverse 1 := ⟨g_at 1840 (by decide +kernel) rfl, g_at 13 (by decide +kernel) rfl, by decide +kernel, by decide +kernel, by decide +kernel⟩
theorem pn_MD_inverse : plainName M_MD_inverse.1.cls = true := by decide +kernel
def M_MD_laysInverse : pM := (⟨"CornerMapsModel", "laysInverse", "(I)V"⟩, prog_12_method_58_code, 2, none)
theorem co_MD_laysInverse : CalOK M_MD_laysInverse 1 := ⟨g_at 1844 (by decide +kernel) rfl, g_at 13 (by decide +kernel) rfl, by decide +kernel, by decide +kernel, by decide +kernel⟩
theorem pn_MD_laysInverse : plainName M_MD_laysInverse.1.cls = true := by decide +kernel
def M_MD_power : pM := (⟨"CornerMapsModel", "power", "(II)I"⟩, prog_12_method_61_code, 4, some .int)
theorem co_MD_power : CalOK M_MD_power 2 := ⟨g_at 1848 (by decide +kernel) rfl, g_at 13 (by decide +kernel) rfl, by decide +kernel, by decide +kernel, by decide +kernel⟩
theorem pn_MD_power : plainName M_MD_power.1.cls = true := by decide +kernel
def M_MD_nothing : pM := (⟨"CornerMapsModel", "nothing", "()V"⟩, prog_12_method_30_code, 2, none)
theorem co_MD_nothing : CalOK M_MD_nothing 0 := ⟨g_at 1852 (by decide +kernel) rfl, g_at 13 (by decide +kernel) rfl, by decide +kernel, by decide +kernel, by decide +kernel⟩
theorem pn_MD_nothing : plainName M_MD_nothing.1.cls = true := by decide +kernel
def M_MD_goesOn : pM := (⟨"CornerMapsModel", "goesOn", "(I)Z"⟩, prog_12_method_60_code, 3, some .boolean)
theorem co_MD_goesOn : CalOK M_MD_goesOn 1 := ⟨g_at 1856 (by decide +kernel) rfl, g_at 13 (by decide +kernel) rfl, by decide +kernel, by decide +kernel, by decide +kernel⟩
theorem pn_MD_goesOn : plainName M_MD_goesOn.1.cls = true := by decide +kernel
def M_MD_drop : pM := (⟨"CornerMapsModel", "drop", "(I)I"⟩, prog_12_method_62_code, 3, some .int)
theorem co_MD_drop : CalOK M_MD_drop 1 := ⟨g_at 1860 (by decide +kernel) rfl, g_at 13 (by decide +kernel) rfl, by decide +kernel, by decide +kernel, by decide +kernel⟩
theorem pn_MD_drop : plainName M_MD_drop.1.cls = true := by decide +kernel
def M_MD_tell : pM := (⟨"CornerMapsModel", "tell", "(III)I"⟩, prog_12_method_64_code, 5, some .int)
theorem co_MD_tell : CalOK M_MD_tell 3 := ⟨g_at 1864 (by decide +kernel) rfl, g_at 13 (by decide +kernel) rfl, by decide +kernel, by decide +kernel, by decide +kernel⟩
theorem pn_MD_tell : plainName M_MD_tell.1.cls = true := by decide +kernel
def M_MD_isEdge : pM := (⟨"CornerMapsModel", "isEdge", "(I)Z"⟩, prog_12_method_63_code, 1, some .boolean)
theorem co_MD_isEdge : CalOK M_MD_isEdge 1 := ⟨g_at 1867 (by decide +kernel) rfl, g_at 13 (by decide +kernel) rfl, by decide +kernel, by decide +kernel, by decide +kernel⟩
theorem pn_MD_isEdge : plainName M_MD_isEdge.1.cls = true := by decide +kernel
def M_MD_moves : pM := (⟨"CornerMapsModel", "moves", "(I)I"⟩, prog_12_method_67_code, 5, some .int)
theorem co_MD_moves : CalOK M_MD_moves 1 := ⟨g_at 1872 (by decide +kernel) rfl, g_at 13 (by decide +kernel) rfl, by decide +kernel, by decide +kernel, by decide +kernel⟩
theorem pn_MD_moves : plainName M_MD_moves.1.cls = true := by decide +kernel
def M_MD_imageOf : pM := (⟨"CornerMapsModel", "imageOf", "(II)V"⟩, prog_12_method_66_code, 3, none)
theorem co_MD_imageOf : CalOK M_MD_imageOf 2 := ⟨g_at 1876 (by decide +kernel) rfl, g_at 13 (by decide +kernel) rfl, by decide +kernel, by decide +kernel, by decide +kernel⟩
theorem pn_MD_imageOf : plainName M_MD_imageOf.1.cls = true := by decide +kernel
def M_MD_images : pM := (⟨"CornerMapsModel", "images", "([JJJJ)V"⟩, prog_12_method_65_code, 8, none)
theorem co_MD_images : CalOK M_MD_images 4 := ⟨g_at 1880 (by decide +kernel) rfl, g_at 13 (by decide +kernel) rfl, by decide +kernel, by decide +kernel, by decide +kernel⟩
theorem pn_MD_images : plainName M_MD_images.1.cls = true := by decide +kernel
def M_MD_image : pM := (⟨"CornerMapsModel", "image", "(IIIII)J"⟩, prog_12_method_69_code, 6, some .long)
theorem co_MD_image : CalOK M_MD_image 5 := ⟨g_at 1885 (by decide +kernel) rfl, g_at 13 (by decide +kernel) rfl, by decide +kernel, by decide +kernel, by decide +kernel⟩
theorem pn_MD_image : plainName M_MD_image.1.cls = true := by decide +kernel
def M_MD_areEdges : pM := (⟨"CornerMapsModel", "areEdges", "(III)Z"⟩, prog_12_method_68_code, 3, some .boolean)
theorem co_MD_areEdges : CalOK M_MD_areEdges 3 := ⟨g_at 1888 (by decide +kernel) rfl, g_at 13 (by decide +kernel) rfl, by decide +kernel, by decide +kernel, by decide +kernel⟩
theorem pn_MD_areEdges : plainName M_MD_areEdges.1.cls = true := by decide +kernel
def M_MD_before : pM := (⟨"CornerMapsModel", "before", "(IIIII)J"⟩, prog_12_method_70_code, 6, some .long)
theorem co_MD_before : CalOK M_MD_before 5 := ⟨g_at 1893 (by decide +kernel) rfl, g_at 13 (by decide +kernel) rfl, by decide +kernel, by decide +kernel, by decide +kernel⟩
theorem pn_MD_before : plainName M_MD_before.1.cls = true := by decide +kernel
def M_MD_line : pM := (⟨"CornerMapsModel", "line", "(IIIII)J"⟩, prog_12_method_71_code, 6, some .long)
theorem co_MD_line : CalOK M_MD_line 5 := ⟨g_at 1898 (by decide +kernel) rfl, g_at 13 (by decide +kernel) rfl, by decide +kernel, by decide +kernel, by decide +kernel⟩
theorem pn_MD_line : plainName M_MD_line.1.cls = true := by decide +kernel
theorem sm_MD_areaOf : Cond.static M_MD_areaOf.1 ∈ gtbl := g_at 1693 (by decide +kernel) rfl
theorem sm_MD_basis : Cond.static M_MD_basis.1 ∈ gtbl := g_at 1708 (by decide +kernel) rfl
theorem sm_MD_reduces : Cond.static M_MD_reduces.1 ∈ gtbl := g_at 1711 (by decide +kernel) rfl
theorem sm_MD_turnsRound : Cond.static M_MD_turnsRound.1 ∈ gtbl := g_at 1718 (by decide +kernel) rfl
theorem sm_MD_multiplies : Cond.static M_MD_multiplies.1 ∈ gtbl := g_at 1721 (by decide +kernel) rfl
theorem sm_MD_common : Cond.static M_MD_common.1 ∈ gtbl := g_at 1714 (by decide +kernel) rfl
theorem sm_MD_isThird : Cond.static M_MD_isThird.1 ∈ gtbl := g_at 1765 (by decide +kernel) rfl
theorem sm_MD_isEdge : Cond.static M_MD_isEdge.1 ∈ gtbl := g_at 1866 (by decide +kernel) rfl
theorem sm_MD_areEdges : Cond.static M_MD_areEdges.1 ∈ gtbl := g_at 1887 (by decide +kernel) rfl
theorem im_String_length : Cond.instanceMethod M_String_length.1 ∈ gtbl := g_at 1156 (by decide +kernel) rfl
theorem se_String_length : Cond.selects M_String_length.1.cls M_String_length.1 M_String_length.1 ∈ gtbl := g_at 1157 (by decide +kernel) rfl
theorem im_String_charAt : Cond.instanceMethod M_String_charAt.1 ∈ gtbl := g_at 1638 (by decide +kernel) rfl
theorem se_String_charAt : Cond.selects M_String_charAt.1.cls M_String_charAt.1 M_String_charAt.1 ∈ gtbl := g_at 1639 (by decide +kernel) rfl
theorem im_MD_readQuad : Cond.instanceMethod M_MD_readQuad.1 ∈ gtbl := g_at 1662 (by decide +kernel) rfl
theorem se_MD_readQuad : Cond.selects M_MD_readQuad.1.cls M_MD_readQuad.1 M_MD_readQuad.1 ∈ gtbl := g_sel 47 (by decide +kernel) rfl
theorem im_MD_readMap : Cond.instanceMethod M_MD_readMap.1 ∈ gtbl := g_at 1697 (by decide +kernel) rfl
theorem se_MD_readMap : Cond.selects M_MD_readMap.1.cls M_MD_readMap.1 M_MD_readMap.1 ∈ gtbl := g_sel 55 (by decide +kernel) rfl
theorem im_MD_readPoint : Cond.instanceMethod M_MD_readPoint.1 ∈ gtbl := g_at 1734 (by decide +kernel) rfl
theorem se_MD_readPoint : Cond.selects M_MD_readPoint.1.cls M_MD_readPoint.1 M_MD_readPoint.1 ∈ gtbl := g_sel 60 (by decide +kernel) rfl
theorem im_MD_wrong : Cond.instanceMethod M_MD_wrong.1 ∈ gtbl := g_at 1666 (by decide +kernel) rfl
theorem se_MD_wrong : Cond.selects M_MD_wrong.1.cls M_MD_wrong.1 M_MD_wrong.1 ∈ gtbl := g_sel 48 (by decide +kernel) rfl
theorem im_MD_goOn : Cond.instanceMethod M_MD_goOn.1 ∈ gtbl := g_at 1674 (by decide +kernel) rfl
theorem se_MD_goOn : Cond.selects M_MD_goOn.1.cls M_MD_goOn.1 M_MD_goOn.1 ∈ gtbl := g_sel 50 (by decide +kernel) rfl
theorem im_MD_isOther : Cond.instanceMethod M_MD_isOther.1 ∈ gtbl := g_at 1678 (by decide +kernel) rfl
theorem se_MD_isOther : Cond.selects M_MD_isOther.1.cls M_MD_isOther.1 M_MD_isOther.1 ∈ gtbl := g_sel 51 (by decide +kernel) rfl
theorem im_MD_quadNamed : Cond.instanceMethod M_MD_quadNamed.1 ∈ gtbl := g_at 1682 (by decide +kernel) rfl
theorem se_MD_quadNamed : Cond.selects M_MD_quadNamed.1.cls M_MD_quadNamed.1 M_MD_quadNamed.1 ∈ gtbl := g_sel 52 (by decide +kernel) rfl
theorem im_MD_number : Cond.instanceMethod M_MD_number.1 ∈ gtbl := g_at 1686 (by decide +kernel) rfl
theorem se_MD_number : Cond.selects M_MD_number.1.cls M_MD_number.1 M_MD_number.1 ∈ gtbl := g_sel 53 (by decide +kernel) rfl
theorem im_MD_isEnd : Cond.instanceMethod M_MD_isEnd.1 ∈ gtbl := g_at 1690 (by decide +kernel) rfl
theorem se_MD_isEnd : Cond.selects M_MD_isEnd.1.cls M_MD_isEnd.1 M_MD_isEnd.1 ∈ gtbl := g_sel 54 (by decide +kernel) rfl
theorem im_MD_wrongAt : Cond.instanceMethod M_MD_wrongAt.1 ∈ gtbl := g_at 1670 (by decide +kernel) rfl
theorem se_MD_wrongAt : Cond.selects M_MD_wrongAt.1.cls M_MD_wrongAt.1 M_MD_wrongAt.1 ∈ gtbl := g_sel 49 (by decide +kernel) rfl
theorem im_MD_toldQuad : Cond.instanceMethod M_MD_toldQuad.1 ∈ gtbl := g_at 1701 (by decide +kernel) rfl
theorem se_MD_toldQuad : Cond.selects M_MD_toldQuad.1.cls M_MD_toldQuad.1 M_MD_toldQuad.1 ∈ gtbl := g_sel 56 (by decide +kernel) rfl
theorem im_MD_laysMap : Cond.instanceMethod M_MD_laysMap.1 ∈ gtbl := g_at 1705 (by decide +kernel) rfl
theorem se_MD_laysMap : Cond.selects M_MD_laysMap.1.cls M_MD_laysMap.1 M_MD_laysMap.1 ∈ gtbl := g_sel 57 (by decide +kernel) rfl
theorem im_MD_isLarge : Cond.instanceMethod M_MD_isLarge.1 ∈ gtbl := g_at 1725 (by decide +kernel) rfl
theorem se_MD_isLarge : Cond.selects M_MD_isLarge.1.cls M_MD_isLarge.1 M_MD_isLarge.1 ∈ gtbl := g_sel 58 (by decide +kernel) rfl
theorem im_MD_puts : Cond.instanceMethod M_MD_puts.1 ∈ gtbl := g_at 1730 (by decide +kernel) rfl
theorem se_MD_puts : Cond.selects M_MD_puts.1.cls M_MD_puts.1 M_MD_puts.1 ∈ gtbl := g_sel 59 (by decide +kernel) rfl
theorem im_MD_laysThree : Cond.instanceMethod M_MD_laysThree.1 ∈ gtbl := g_at 1738 (by decide +kernel) rfl
theorem se_MD_laysThree : Cond.selects M_MD_laysThree.1.cls M_MD_laysThree.1 M_MD_laysThree.1 ∈ gtbl := g_sel 61 (by decide +kernel) rfl
theorem im_MD_putsPoint : Cond.instanceMethod M_MD_putsPoint.1 ∈ gtbl := g_at 1742 (by decide +kernel) rfl
theorem se_MD_putsPoint : Cond.selects M_MD_putsPoint.1.cls M_MD_putsPoint.1 M_MD_putsPoint.1 ∈ gtbl := g_sel 62 (by decide +kernel) rfl
theorem im_MD_isQuad : Cond.instanceMethod M_MD_isQuad.1 ∈ gtbl := g_at 1754 (by decide +kernel) rfl
theorem se_MD_isQuad : Cond.selects M_MD_isQuad.1.cls M_MD_isQuad.1 M_MD_isQuad.1 ∈ gtbl := g_sel 63 (by decide +kernel) rfl
theorem im_MD_isMap : Cond.instanceMethod M_MD_isMap.1 ∈ gtbl := g_at 1762 (by decide +kernel) rfl
theorem se_MD_isMap : Cond.selects M_MD_isMap.1.cls M_MD_isMap.1 M_MD_isMap.1 ∈ gtbl := g_sel 64 (by decide +kernel) rfl
theorem im_MD_isPoint : Cond.instanceMethod M_MD_isPoint.1 ∈ gtbl := g_at 1773 (by decide +kernel) rfl
theorem se_MD_isPoint : Cond.selects M_MD_isPoint.1.cls M_MD_isPoint.1 M_MD_isPoint.1 ∈ gtbl := g_sel 65 (by decide +kernel) rfl
theorem im_MD_pointOf : Cond.instanceMethod M_MD_pointOf.1 ∈ gtbl := g_at 1777 (by decide +kernel) rfl
theorem se_MD_pointOf : Cond.selects M_MD_pointOf.1.cls M_MD_pointOf.1 M_MD_pointOf.1 ∈ gtbl := g_sel 66 (by decide +kernel) rfl
theorem im_MD_dentOf : Cond.instanceMethod M_MD_dentOf.1 ∈ gtbl := g_at 1785 (by decide +kernel) rfl
theorem se_MD_dentOf : Cond.selects M_MD_dentOf.1.cls M_MD_dentOf.1 M_MD_dentOf.1 ∈ gtbl := g_sel 67 (by decide +kernel) rfl
theorem im_MD_doCross : Cond.instanceMethod M_MD_doCross.1 ∈ gtbl := g_at 1793 (by decide +kernel) rfl
theorem se_MD_doCross : Cond.selects M_MD_doCross.1.cls M_MD_doCross.1 M_MD_doCross.1 ∈ gtbl := g_sel 69 (by decide +kernel) rfl
theorem im_MD_isDent : Cond.instanceMethod M_MD_isDent.1 ∈ gtbl := g_at 1789 (by decide +kernel) rfl
theorem se_MD_isDent : Cond.selects M_MD_isDent.1.cls M_MD_isDent.1 M_MD_isDent.1 ∈ gtbl := g_sel 68 (by decide +kernel) rfl
theorem im_MD_comes : Cond.instanceMethod M_MD_comes.1 ∈ gtbl := g_at 1814 (by decide +kernel) rfl
theorem se_MD_comes : Cond.selects M_MD_comes.1.cls M_MD_comes.1 M_MD_comes.1 ∈ gtbl := g_sel 70 (by decide +kernel) rfl
theorem im_MD_keeps : Cond.instanceMethod M_MD_keeps.1 ∈ gtbl := g_at 1819 (by decide +kernel) rfl
theorem se_MD_keeps : Cond.selects M_MD_keeps.1.cls M_MD_keeps.1 M_MD_keeps.1 ∈ gtbl := g_sel 71 (by decide +kernel) rfl
theorem im_MD_laysProduct : Cond.instanceMethod M_MD_laysProduct.1 ∈ gtbl := g_at 1831 (by decide +kernel) rfl
theorem se_MD_laysProduct : Cond.selects M_MD_laysProduct.1.cls M_MD_laysProduct.1 M_MD_laysProduct.1 ∈ gtbl := g_sel 72 (by decide +kernel) rfl
theorem im_MD_takes : Cond.instanceMethod M_MD_takes.1 ∈ gtbl := g_at 1835 (by decide +kernel) rfl
theorem se_MD_takes : Cond.selects M_MD_takes.1.cls M_MD_takes.1 M_MD_takes.1 ∈ gtbl := g_sel 73 (by decide +kernel) rfl
theorem im_MD_laysInverse : Cond.instanceMethod M_MD_laysInverse.1 ∈ gtbl := g_at 1843 (by decide +kernel) rfl
theorem se_MD_laysInverse : Cond.selects M_MD_laysInverse.1.cls M_MD_laysInverse.1 M_MD_laysInverse.1 ∈ gtbl := g_sel 74 (by decide +kernel) rfl
theorem im_MD_nothing : Cond.instanceMethod M_MD_nothing.1 ∈ gtbl := g_at 1851 (by decide +kernel) rfl
theorem se_MD_nothing : Cond.selects M_MD_nothing.1.cls M_MD_nothing.1 M_MD_nothing.1 ∈ gtbl := g_sel 75 (by decide +kernel) rfl
theorem im_MD_goesOn : Cond.instanceMethod M_MD_goesOn.1 ∈ gtbl := g_at 1855 (by decide +kernel) rfl
theorem se_MD_goesOn : Cond.selects M_MD_goesOn.1.cls M_MD_goesOn.1 M_MD_goesOn.1 ∈ gtbl := g_sel 76 (by decide +kernel) rfl
theorem im_MD_imageOf : Cond.instanceMethod M_MD_imageOf.1 ∈ gtbl := g_at 1875 (by decide +kernel) rfl
theorem se_MD_imageOf : Cond.selects M_MD_imageOf.1.cls M_MD_imageOf.1 M_MD_imageOf.1 ∈ gtbl := g_sel 77 (by decide +kernel) rfl
theorem im_MD_images : Cond.instanceMethod M_MD_images.1 ∈ gtbl := g_at 1879 (by decide +kernel) rfl
theorem se_MD_images : Cond.selects M_MD_images.1.cls M_MD_images.1 M_MD_images.1 ∈ gtbl := g_sel 78 (by decide +kernel) rfl
theorem L_MD_115 : Cond.methodLink "CornerMapsModel" 115 ⟨"java/lang/String", "length", "()I"⟩ ∈ gtbl := g_at 1636 (by decide +kernel) rfl
theorem L_MD_120 : Cond.methodLink "CornerMapsModel" 120 ⟨"java/lang/String", "charAt", "(I)C"⟩ ∈ gtbl := g_at 1637 (by decide +kernel) rfl
theorem L_MD_186 : Cond.methodLink "CornerMapsModel" 186 ⟨"CornerMapsModel", "readQuad", "()V"⟩ ∈ gtbl := g_at 1660 (by decide +kernel) rfl
theorem L_MD_189 : Cond.methodLink "CornerMapsModel" 189 ⟨"CornerMapsModel", "readMap", "()V"⟩ ∈ gtbl := g_at 1695 (by decide +kernel) rfl
theorem L_MD_192 : Cond.methodLink "CornerMapsModel" 192 ⟨"CornerMapsModel", "readPoint", "()V"⟩ ∈ gtbl := g_at 1732 (by decide +kernel) rfl
theorem L_MD_140 : Cond.methodLink "CornerMapsModel" 140 ⟨"CornerMapsModel", "wrong", "(I)V"⟩ ∈ gtbl := g_at 1664 (by decide +kernel) rfl
theorem L_MD_137 : Cond.methodLink "CornerMapsModel" 137 ⟨"CornerMapsModel", "goOn", "()V"⟩ ∈ gtbl := g_at 1672 (by decide +kernel) rfl
theorem L_MD_147 : Cond.methodLink "CornerMapsModel" 147 ⟨"CornerMapsModel", "isOther", "()Z"⟩ ∈ gtbl := g_at 1676 (by decide +kernel) rfl
theorem L_MD_151 : Cond.methodLink "CornerMapsModel" 151 ⟨"CornerMapsModel", "quadNamed", "()I"⟩ ∈ gtbl := g_at 1680 (by decide +kernel) rfl
theorem L_MD_154 : Cond.methodLink "CornerMapsModel" 154 ⟨"CornerMapsModel", "number", "(I)I"⟩ ∈ gtbl := g_at 1684 (by decide +kernel) rfl
theorem L_MD_158 : Cond.methodLink "CornerMapsModel" 158 ⟨"CornerMapsModel", "isEnd", "()Z"⟩ ∈ gtbl := g_at 1688 (by decide +kernel) rfl
theorem L_MD_161 : Cond.methodLink "CornerMapsModel" 161 ⟨"CornerMapsModel", "areaOf", "([IIIII)I"⟩ ∈ gtbl := g_at 1692 (by decide +kernel) rfl
theorem L_MD_130 : Cond.methodLink "CornerMapsModel" 130 ⟨"CornerMapsModel", "wrongAt", "(II)V"⟩ ∈ gtbl := g_at 1668 (by decide +kernel) rfl
theorem L_MD_165 : Cond.methodLink "CornerMapsModel" 165 ⟨"CornerMapsModel", "toldQuad", "()I"⟩ ∈ gtbl := g_at 1699 (by decide +kernel) rfl
theorem L_MD_168 : Cond.methodLink "CornerMapsModel" 168 ⟨"CornerMapsModel", "laysMap", "([III)V"⟩ ∈ gtbl := g_at 1703 (by decide +kernel) rfl
theorem L_MD_172 : Cond.methodLink "CornerMapsModel" 172 ⟨"CornerMapsModel", "isLarge", "()Z"⟩ ∈ gtbl := g_at 1723 (by decide +kernel) rfl
theorem L_MD_175 : Cond.methodLink "CornerMapsModel" 175 ⟨"CornerMapsModel", "puts", "([JI)V"⟩ ∈ gtbl := g_at 1728 (by decide +kernel) rfl
theorem L_MD_226 : Cond.methodLink "CornerMapsModel" 226 ⟨"CornerMapsModel", "basis", "([J[II)V"⟩ ∈ gtbl := g_at 1707 (by decide +kernel) rfl
theorem L_MD_220 : Cond.methodLink "CornerMapsModel" 220 ⟨"CornerMapsModel", "reduces", "([J)V"⟩ ∈ gtbl := g_at 1710 (by decide +kernel) rfl
theorem L_MD_230 : Cond.methodLink "CornerMapsModel" 230 ⟨"CornerMapsModel", "turnsRound", "([J[J)V"⟩ ∈ gtbl := g_at 1717 (by decide +kernel) rfl
theorem L_MD_234 : Cond.methodLink "CornerMapsModel" 234 ⟨"CornerMapsModel", "multiplies", "([J[J[J)V"⟩ ∈ gtbl := g_at 1720 (by decide +kernel) rfl
theorem L_MD_216 : Cond.methodLink "CornerMapsModel" 216 ⟨"CornerMapsModel", "common", "(JJ)J"⟩ ∈ gtbl := g_at 1713 (by decide +kernel) rfl
theorem L_MD_210 : Cond.methodLink "CornerMapsModel" 210 ⟨"java/lang/Math", "abs", "(J)J"⟩ ∈ gtbl := g_at 1716 (by decide +kernel) rfl
theorem L_MD_224 : Cond.constantLong "CornerMapsModel" 224 (1000000000 : Int64) ∈ gtbl := g_at 1727 (by decide +kernel) rfl
theorem L_MD_179 : Cond.methodLink "CornerMapsModel" 179 ⟨"CornerMapsModel", "laysThree", "(JJJ)V"⟩ ∈ gtbl := g_at 1736 (by decide +kernel) rfl
theorem L_MD_183 : Cond.methodLink "CornerMapsModel" 183 ⟨"CornerMapsModel", "putsPoint", "([JI)V"⟩ ∈ gtbl := g_at 1740 (by decide +kernel) rfl
theorem L_MD_238 : Cond.methodLink "CornerMapsModel" 238 ⟨"CornerMapsModel", "isQuad", "(I)Z"⟩ ∈ gtbl := g_at 1752 (by decide +kernel) rfl
theorem L_MD_241 : Cond.methodLink "CornerMapsModel" 241 ⟨"CornerMapsModel", "isMap", "(I)Z"⟩ ∈ gtbl := g_at 1760 (by decide +kernel) rfl
theorem L_MD_244 : Cond.methodLink "CornerMapsModel" 244 ⟨"CornerMapsModel", "isThird", "(I)Z"⟩ ∈ gtbl := g_at 1764 (by decide +kernel) rfl
theorem L_MD_247 : Cond.methodLink "CornerMapsModel" 247 ⟨"CornerMapsModel", "isPoint", "(I)Z"⟩ ∈ gtbl := g_at 1771 (by decide +kernel) rfl
theorem L_MD_250 : Cond.methodLink "CornerMapsModel" 250 ⟨"CornerMapsModel", "pointOf", "(II)J"⟩ ∈ gtbl := g_at 1775 (by decide +kernel) rfl
theorem L_MD_258 : Cond.methodLink "CornerMapsModel" 258 ⟨"CornerMapsModel", "dentOf", "(I)I"⟩ ∈ gtbl := g_at 1783 (by decide +kernel) rfl
theorem L_MD_261 : Cond.methodLink "CornerMapsModel" 261 ⟨"CornerMapsModel", "doCross", "(IIIII)Z"⟩ ∈ gtbl := g_at 1791 (by decide +kernel) rfl
theorem L_MD_254 : Cond.methodLink "CornerMapsModel" 254 ⟨"CornerMapsModel", "isDent", "(II)Z"⟩ ∈ gtbl := g_at 1787 (by decide +kernel) rfl
theorem L_MD_265 : Cond.constant "CornerMapsModel" 265 (-100000 : Int32) ∈ gtbl := g_at 1803 (by decide +kernel) rfl
theorem L_MD_271 : Cond.methodLink "CornerMapsModel" 271 ⟨"CornerMapsModel", "comes", "()I"⟩ ∈ gtbl := g_at 1812 (by decide +kernel) rfl
theorem L_MD_266 : Cond.constantLong "CornerMapsModel" 266 (16 : Int64) ∈ gtbl := g_at 1816 (by decide +kernel) rfl
theorem L_MD_268 : Cond.methodLink "CornerMapsModel" 268 ⟨"CornerMapsModel", "keeps", "()V"⟩ ∈ gtbl := g_at 1817 (by decide +kernel) rfl
theorem L_MD_277 : Cond.methodLink "CornerMapsModel" 277 ⟨"CornerMapsModel", "laysProduct", "(II)V"⟩ ∈ gtbl := g_at 1829 (by decide +kernel) rfl
theorem L_MD_274 : Cond.methodLink "CornerMapsModel" 274 ⟨"CornerMapsModel", "takes", "([JI)V"⟩ ∈ gtbl := g_at 1833 (by decide +kernel) rfl
theorem L_MD_280 : Cond.methodLink "CornerMapsModel" 280 ⟨"CornerMapsModel", "laysInverse", "(I)V"⟩ ∈ gtbl := g_at 1841 (by decide +kernel) rfl
theorem L_MD_283 : Cond.methodLink "CornerMapsModel" 283 ⟨"CornerMapsModel", "nothing", "()V"⟩ ∈ gtbl := g_at 1849 (by decide +kernel) rfl
theorem L_MD_286 : Cond.methodLink "CornerMapsModel" 286 ⟨"CornerMapsModel", "goesOn", "(I)Z"⟩ ∈ gtbl := g_at 1853 (by decide +kernel) rfl
theorem L_MD_289 : Cond.methodLink "CornerMapsModel" 289 ⟨"CornerMapsModel", "isEdge", "(I)Z"⟩ ∈ gtbl := g_at 1865 (by decide +kernel) rfl
theorem L_MD_292 : Cond.constantLong "CornerMapsModel" 292 (8 : Int64) ∈ gtbl := g_at 1868 (by decide +kernel) rfl
theorem L_MD_298 : Cond.methodLink "CornerMapsModel" 298 ⟨"CornerMapsModel", "imageOf", "(II)V"⟩ ∈ gtbl := g_at 1873 (by decide +kernel) rfl
theorem L_MD_301 : Cond.constantLong "CornerMapsModel" 301 (9999 : Int64) ∈ gtbl := g_at 1881 (by decide +kernel) rfl
theorem L_MD_294 : Cond.methodLink "CornerMapsModel" 294 ⟨"CornerMapsModel", "images", "([JJJJ)V"⟩ ∈ gtbl := g_at 1877 (by decide +kernel) rfl
theorem L_MD_303 : Cond.methodLink "CornerMapsModel" 303 ⟨"CornerMapsModel", "areEdges", "(III)Z"⟩ ∈ gtbl := g_at 1886 (by decide +kernel) rfl
theorem L_MD_307 : Cond.constantLong "CornerMapsModel" 307 (-9223372036854775808 : Int64) ∈ gtbl := g_at 1889 (by decide +kernel) rfl
theorem L_MD_309 : Cond.constantLong "CornerMapsModel" 309 (-100000000000 : Int64) ∈ gtbl := g_at 1894 (by decide +kernel) rfl
theorem F_MD_here_0 : Jvm.Free.DS.Facts prog_12_method_4_code 0 [(.aload_n 0, 1), (.getfield 80, 3), (.aload_n 0, 1), (.getfield 83, 3), (.if_icmp .ge (15), 3), (.aload_n 0, 1), (.getfield 9, 3), (.aload_n 0, 1), (.getfield 80, 3), (.iaload, 1), (.goto (4), 3), (.iconst (-1), 1), (.ireturn, 1)] := Jvm.Free.DS.facts 0 _ (by decide +kernel) (by decide +kernel)
theorem d_MD_here_0 : decode prog_12_method_4_code 0 = .ok (.aload_n 0, 1) := F_MD_here_0.1
theorem d_MD_here_1 : decode prog_12_method_4_code 1 = .ok (.getfield 80, 3) := F_MD_here_0.2.1
theorem d_MD_here_4 : decode prog_12_method_4_code 4 = .ok (.aload_n 0, 1) := F_MD_here_0.2.2.1
theorem d_MD_here_5 : decode prog_12_method_4_code 5 = .ok (.getfield 83, 3) := F_MD_here_0.2.2.2.1
theorem d_MD_here_8 : decode prog_12_method_4_code 8 = .ok (.if_icmp .ge (15), 3) := F_MD_here_0.2.2.2.2.1
theorem d_MD_here_11 : decode prog_12_method_4_code 11 = .ok (.aload_n 0, 1) := F_MD_here_0.2.2.2.2.2.1
theorem d_MD_here_12 : decode prog_12_method_4_code 12 = .ok (.getfield 9, 3) := F_MD_here_0.2.2.2.2.2.2.1
theorem d_MD_here_15 : decode prog_12_method_4_code 15 = .ok (.aload_n 0, 1) := F_MD_here_0.2.2.2.2.2.2.2.1
theorem d_MD_here_16 : decode prog_12_method_4_code 16 = .ok (.getfield 80, 3) := F_MD_here_0.2.2.2.2.2.2.2.2.1
theorem d_MD_here_19 : decode prog_12_method_4_code 19 = .ok (.iaload, 1) := F_MD_here_0.2.2.2.2.2.2.2.2.2.1
theorem d_MD_here_20 : decode prog_12_method_4_code 20 = .ok (.goto (4), 3) := F_MD_here_0.2.2.2.2.2.2.2.2.2.2.1
theorem d_MD_here_23 : decode prog_12_method_4_code 23 = .ok (.iconst (-1), 1) := F_MD_here_0.2.2.2.2.2.2.2.2.2.2.2.1
theorem d_MD_here_24 : decode prog_12_method_4_code 24 = .ok (.ireturn, 1) := F_MD_here_0.2.2.2.2.2.2.2.2.2.2.2.2.1
theorem F_MD_isSmall_0 : Jvm.Free.DS.Facts prog_12_method_5_code 0 [(.iload_n 0, 1), (.bipush (97), 2), (.if_icmp .lt (13), 3), (.iload_n 0, 1), (.bipush (122), 2), (.if_icmp .gt (7), 3), (.iconst 1, 1), (.goto (4), 3), (.iconst 0, 1), (.ireturn, 1)] := Jvm.Free.DS.facts 0 _ (by decide +kernel) (by decide +kernel)
theorem d_MD_isSmall_0 : decode prog_12_method_5_code 0 = .ok (.iload_n 0, 1) := F_MD_isSmall_0.1
theorem d_MD_isSmall_1 : decode prog_12_method_5_code 1 = .ok (.bipush (97), 2) := F_MD_isSmall_0.2.1
theorem d_MD_isSmall_3 : decode prog_12_method_5_code 3 = .ok (.if_icmp .lt (13), 3) := F_MD_isSmall_0.2.2.1
theorem d_MD_isSmall_6 : decode prog_12_method_5_code 6 = .ok (.iload_n 0, 1) := F_MD_isSmall_0.2.2.2.1
theorem d_MD_isSmall_7 : decode prog_12_method_5_code 7 = .ok (.bipush (122), 2) := F_MD_isSmall_0.2.2.2.2.1
theorem d_MD_isSmall_9 : decode prog_12_method_5_code 9 = .ok (.if_icmp .gt (7), 3) := F_MD_isSmall_0.2.2.2.2.2.1
theorem d_MD_isSmall_12 : decode prog_12_method_5_code 12 = .ok (.iconst 1, 1) := F_MD_isSmall_0.2.2.2.2.2.2.1
theorem d_MD_isSmall_13 : decode prog_12_method_5_code 13 = .ok (.goto (4), 3) := F_MD_isSmall_0.2.2.2.2.2.2.2.1
theorem d_MD_isSmall_16 : decode prog_12_method_5_code 16 = .ok (.iconst 0, 1) := F_MD_isSmall_0.2.2.2.2.2.2.2.2.1
theorem d_MD_isSmall_17 : decode prog_12_method_5_code 17 = .ok (.ireturn, 1) := F_MD_isSmall_0.2.2.2.2.2.2.2.2.2.1
theorem F_MD_wordHere_0 : Jvm.Free.DS.Facts prog_12_method_8_code 0 [(.iconst 0, 1), (.istore_n 1, 1), (.iconst 0, 1), (.istore_n 2, 1), (.iload_n 2, 1), (.ldc 113, 2), (.invokevirtual 115, 3), (.if_icmp .ge (113), 3), (.iconst 0, 1), (.istore_n 3, 1), (.ldc 113, 2), (.iload_n 2, 1), (.iload_n 3, 1), (.iadd, 1), (.invokevirtual 120, 3), (.bipush (32), 2), (.if_icmp .eq (44), 3), (.aload_n 0, 1), (.getfield 90, 3), (.iload_n 3, 1), (.iadd, 1), (.aload_n 0, 1), (.getfield 80, 3), (.if_icmp .ge (31), 3), (.aload_n 0, 1), (.getfield 9, 3), (.aload_n 0, 1), (.getfield 90, 3), (.iload_n 3, 1), (.iadd, 1), (.iaload, 1), (.ldc 113, 2)] := Jvm.Free.DS.facts 0 _ (by decide +kernel) (by decide +kernel)
theorem d_MD_wordHere_0 : decode prog_12_method_8_code 0 = .ok (.iconst 0, 1) := F_MD_wordHere_0.1
theorem d_MD_wordHere_1 : decode prog_12_method_8_code 1 = .ok (.istore_n 1, 1) := F_MD_wordHere_0.2.1
theorem d_MD_wordHere_2 : decode prog_12_method_8_code 2 = .ok (.iconst 0, 1) := F_MD_wordHere_0.2.2.1
theorem d_MD_wordHere_3 : decode prog_12_method_8_code 3 = .ok (.istore_n 2, 1) := F_MD_wordHere_0.2.2.2.1
theorem d_MD_wordHere_4 : decode prog_12_method_8_code 4 = .ok (.iload_n 2, 1) := F_MD_wordHere_0.2.2.2.2.1
theorem d_MD_wordHere_5 : decode prog_12_method_8_code 5 = .ok (.ldc 113, 2) := F_MD_wordHere_0.2.2.2.2.2.1
theorem d_MD_wordHere_7 : decode prog_12_method_8_code 7 = .ok (.invokevirtual 115, 3) := F_MD_wordHere_0.2.2.2.2.2.2.1
theorem d_MD_wordHere_10 : decode prog_12_method_8_code 10 = .ok (.if_icmp .ge (113), 3) := F_MD_wordHere_0.2.2.2.2.2.2.2.1
theorem d_MD_wordHere_13 : decode prog_12_method_8_code 13 = .ok (.iconst 0, 1) := F_MD_wordHere_0.2.2.2.2.2.2.2.2.1
theorem d_MD_wordHere_14 : decode prog_12_method_8_code 14 = .ok (.istore_n 3, 1) := F_MD_wordHere_0.2.2.2.2.2.2.2.2.2.1
theorem d_MD_wordHere_15 : decode prog_12_method_8_code 15 = .ok (.ldc 113, 2) := F_MD_wordHere_0.2.2.2.2.2.2.2.2.2.2.1
theorem d_MD_wordHere_17 : decode prog_12_method_8_code 17 = .ok (.iload_n 2, 1) := F_MD_wordHere_0.2.2.2.2.2.2.2.2.2.2.2.1
theorem d_MD_wordHere_18 : decode prog_12_method_8_code 18 = .ok (.iload_n 3, 1) := F_MD_wordHere_0.2.2.2.2.2.2.2.2.2.2.2.2.1
theorem d_MD_wordHere_19 : decode prog_12_method_8_code 19 = .ok (.iadd, 1) := F_MD_wordHere_0.2.2.2.2.2.2.2.2.2.2.2.2.2.1
theorem d_MD_wordHere_20 : decode prog_12_method_8_code 20 = .ok (.invokevirtual 120, 3) := F_MD_wordHere_0.2.2.2.2.2.2.2.2.2.2.2.2.2.2.1
theorem d_MD_wordHere_23 : decode prog_12_method_8_code 23 = .ok (.bipush (32), 2) := F_MD_wordHere_0.2.2.2.2.2.2.2.2.2.2.2.2.2.2.2.1
theorem d_MD_wordHere_25 : decode prog_12_method_8_code 25 = .ok (.if_icmp .eq (44), 3) := F_MD_wordHere_0.2.2.2.2.2.2.2.2.2.2.2.2.2.2.2.2.1
theorem d_MD_wordHere_28 : decode prog_12_method_8_code 28 = .ok (.aload_n 0, 1) := F_MD_wordHere_0.2.2.2.2.2.2.2.2.2.2.2.2.2.2.2.2.2.1
theorem d_MD_wordHere_29 : decode prog_12_method_8_code 29 = .ok (.getfield 90, 3) := F_MD_wordHere_0.2.2.2.2.2.2.2.2.2.2.2.2.2.2.2.2.2.2.1
theorem d_MD_wordHere_32 : decode prog_12_method_8_code 32 = .ok (.iload_n 3, 1) := F_MD_wordHere_0.2.2.2.2.2.2.2.2.2.2.2.2.2.2.2.2.2.2.2.1
theorem d_MD_wordHere_33 : decode prog_12_method_8_code 33 = .ok (.iadd, 1) := F_MD_wordHere_0.2.2.2.2.2.2.2.2.2.2.2.2.2.2.2.2.2.2.2.2.1
theorem d_MD_wordHere_34 : decode prog_12_method_8_code 34 = .ok (.aload_n 0, 1) := F_MD_wordHere_0.2.2.2.2.2.2.2.2.2.2.2.2.2.2.2.2.2.2.2.2.2.1
theorem d_MD_wordHere_35 : decode prog_12_method_8_code 35 = .ok (.getfield 80, 3) := F_MD_wordHere_0.2.2.2.2.2.2.2.2.2.2.2.2.2.2.2.2.2.2.2.2.2.2.1
theorem d_MD_wordHere_38 : decode prog_12_method_8_code 38 = .ok (.if_icmp .ge (31), 3) := F_MD_wordHere_0.2.2.2.2.2.2.2.2.2.2.2.2.2.2.2.2.2.2.2.2.2.2.2.1
theorem d_MD_wordHere_41 : decode prog_12_method_8_code 41 = .ok (.aload_n 0, 1) := F_MD_wordHere_0.2.2.2.2.2.2.2.2.2.2.2.2.2.2.2.2.2.2.2.2.2.2.2.2.1
theorem d_MD_wordHere_42 : decode prog_12_method_8_code 42 = .ok (.getfield 9, 3) := F_MD_wordHere_0.2.2.2.2.2.2.2.2.2.2.2.2.2.2.2.2.2.2.2.2.2.2.2.2.2.1
theorem d_MD_wordHere_45 : decode prog_12_method_8_code 45 = .ok (.aload_n 0, 1) := F_MD_wordHere_0.2.2.2.2.2.2.2.2.2.2.2.2.2.2.2.2.2.2.2.2.2.2.2.2.2.2.1
theorem d_MD_wordHere_46 : decode prog_12_method_8_code 46 = .ok (.getfield 90, 3) := F_MD_wordHere_0.2.2.2.2.2.2.2.2.2.2.2.2.2.2.2.2.2.2.2.2.2.2.2.2.2.2.2.1
theorem d_MD_wordHere_49 : decode prog_12_method_8_code 49 = .ok (.iload_n 3, 1) := F_MD_wordHere_0.2.2.2.2.2.2.2.2.2.2.2.2.2.2.2.2.2.2.2.2.2.2.2.2.2.2.2.2.1
theorem d_MD_wordHere_50 : decode prog_12_method_8_code 50 = .ok (.iadd, 1) := F_MD_wordHere_0.2.2.2.2.2.2.2.2.2.2.2.2.2.2.2.2.2.2.2.2.2.2.2.2.2.2.2.2.2.1
theorem d_MD_wordHere_51 : decode prog_12_method_8_code 51 = .ok (.iaload, 1) := F_MD_wordHere_0.2.2.2.2.2.2.2.2.2.2.2.2.2.2.2.2.2.2.2.2.2.2.2.2.2.2.2.2.2.2.1
theorem d_MD_wordHere_52 : decode prog_12_method_8_code 52 = .ok (.ldc 113, 2) := F_MD_wordHere_0.2.2.2.2.2.2.2.2.2.2.2.2.2.2.2.2.2.2.2.2.2.2.2.2.2.2.2.2.2.2.2.1
theorem F_MD_wordHere_54 : Jvm.Free.DS.Facts prog_12_method_8_code 54 [(.iload_n 2, 1), (.iload_n 3, 1), (.iadd, 1), (.invokevirtual 120, 3), (.if_icmp .ne (9), 3), (.iinc 3 (1), 3), (.goto (-51), 3), (.ldc 113, 2), (.iload_n 2, 1), (.iload_n 3, 1), (.iadd, 1), (.invokevirtual 120, 3), (.bipush (32), 2), (.if_icmp .ne (18), 3), (.aload_n 0, 1), (.getfield 90, 3), (.iload_n 3, 1), (.iadd, 1), (.aload_n 0, 1), (.getfield 80, 3), (.if_icmp .ne (5), 3), (.iload_n 1, 1), (.ireturn, 1), (.ldc 113, 2), (.iload_n 2, 1), (.invokevirtual 120, 3), (.bipush (32), 2), (.if_icmp .eq (9), 3), (.iinc 2 (1), 3), (.goto (-14), 3), (.iinc 2 (1), 3), (.iinc 1 (1), 3)] := Jvm.Free.DS.facts 54 _ (by decide +kernel) (by decide +kernel)
theorem d_MD_wordHere_54 : decode prog_12_method_8_code 54 = .ok (.iload_n 2, 1) := F_MD_wordHere_54.1
theorem d_MD_wordHere_55 : decode prog_12_method_8_code 55 = .ok (.iload_n 3, 1) := F_MD_wordHere_54.2.1
theorem d_MD_wordHere_56 : decode prog_12_method_8_code 56 = .ok (.iadd, 1) := F_MD_wordHere_54.2.2.1
theorem d_MD_wordHere_57 : decode prog_12_method_8_code 57 = .ok (.invokevirtual 120, 3) := F_MD_wordHere_54.2.2.2.1
theorem d_MD_wordHere_60 : decode prog_12_method_8_code 60 = .ok (.if_icmp .ne (9), 3) := F_MD_wordHere_54.2.2.2.2.1
theorem d_MD_wordHere_63 : decode prog_12_method_8_code 63 = .ok (.iinc 3 (1), 3) := F_MD_wordHere_54.2.2.2.2.2.1
theorem d_MD_wordHere_66 : decode prog_12_method_8_code 66 = .ok (.goto (-51), 3) := F_MD_wordHere_54.2.2.2.2.2.2.1
theorem d_MD_wordHere_69 : decode prog_12_method_8_code 69 = .ok (.ldc 113, 2) := F_MD_wordHere_54.2.2.2.2.2.2.2.1
theorem d_MD_wordHere_71 : decode prog_12_method_8_code 71 = .ok (.iload_n 2, 1) := F_MD_wordHere_54.2.2.2.2.2.2.2.2.1
theorem d_MD_wordHere_72 : decode prog_12_method_8_code 72 = .ok (.iload_n 3, 1) := F_MD_wordHere_54.2.2.2.2.2.2.2.2.2.1
theorem d_MD_wordHere_73 : decode prog_12_method_8_code 73 = .ok (.iadd, 1) := F_MD_wordHere_54.2.2.2.2.2.2.2.2.2.2.1
theorem d_MD_wordHere_74 : decode prog_12_method_8_code 74 = .ok (.invokevirtual 120, 3) := F_MD_wordHere_54.2.2.2.2.2.2.2.2.2.2.2.1
theorem d_MD_wordHere_77 : decode prog_12_method_8_code 77 = .ok (.bipush (32), 2) := F_MD_wordHere_54.2.2.2.2.2.2.2.2.2.2.2.2.1
theorem d_MD_wordHere_79 : decode prog_12_method_8_code 79 = .ok (.if_icmp .ne (18), 3) := F_MD_wordHere_54.2.2.2.2.2.2.2.2.2.2.2.2.2.1
theorem d_MD_wordHere_82 : decode prog_12_method_8_code 82 = .ok (.aload_n 0, 1) := F_MD_wordHere_54.2.2.2.2.2.2.2.2.2.2.2.2.2.2.1
theorem d_MD_wordHere_83 : decode prog_12_method_8_code 83 = .ok (.getfield 90, 3) := F_MD_wordHere_54.2.2.2.2.2.2.2.2.2.2.2.2.2.2.2.1
theorem d_MD_wordHere_86 : decode prog_12_method_8_code 86 = .ok (.iload_n 3, 1) := F_MD_wordHere_54.2.2.2.2.2.2.2.2.2.2.2.2.2.2.2.2.1
theorem d_MD_wordHere_87 : decode prog_12_method_8_code 87 = .ok (.iadd, 1) := F_MD_wordHere_54.2.2.2.2.2.2.2.2.2.2.2.2.2.2.2.2.2.1
theorem d_MD_wordHere_88 : decode prog_12_method_8_code 88 = .ok (.aload_n 0, 1) := F_MD_wordHere_54.2.2.2.2.2.2.2.2.2.2.2.2.2.2.2.2.2.2.1
theorem d_MD_wordHere_89 : decode prog_12_method_8_code 89 = .ok (.getfield 80, 3) := F_MD_wordHere_54.2.2.2.2.2.2.2.2.2.2.2.2.2.2.2.2.2.2.2.1
theorem d_MD_wordHere_92 : decode prog_12_method_8_code 92 = .ok (.if_icmp .ne (5), 3) := F_MD_wordHere_54.2.2.2.2.2.2.2.2.2.2.2.2.2.2.2.2.2.2.2.2.1
theorem d_MD_wordHere_95 : decode prog_12_method_8_code 95 = .ok (.iload_n 1, 1) := F_MD_wordHere_54.2.2.2.2.2.2.2.2.2.2.2.2.2.2.2.2.2.2.2.2.2.1
theorem d_MD_wordHere_96 : decode prog_12_method_8_code 96 = .ok (.ireturn, 1) := F_MD_wordHere_54.2.2.2.2.2.2.2.2.2.2.2.2.2.2.2.2.2.2.2.2.2.2.1
theorem d_MD_wordHere_97 : decode prog_12_method_8_code 97 = .ok (.ldc 113, 2) := F_MD_wordHere_54.2.2.2.2.2.2.2.2.2.2.2.2.2.2.2.2.2.2.2.2.2.2.2.1
theorem d_MD_wordHere_99 : decode prog_12_method_8_code 99 = .ok (.iload_n 2, 1) := F_MD_wordHere_54.2.2.2.2.2.2.2.2.2.2.2.2.2.2.2.2.2.2.2.2.2.2.2.2.1
theorem d_MD_wordHere_100 : decode prog_12_method_8_code 100 = .ok (.invokevirtual 120, 3) := F_MD_wordHere_54.2.2.2.2.2.2.2.2.2.2.2.2.2.2.2.2.2.2.2.2.2.2.2.2.2.1
theorem d_MD_wordHere_103 : decode prog_12_method_8_code 103 = .ok (.bipush (32), 2) := F_MD_wordHere_54.2.2.2.2.2.2.2.2.2.2.2.2.2.2.2.2.2.2.2.2.2.2.2.2.2.2.1
theorem d_MD_wordHere_105 : decode prog_12_method_8_code 105 = .ok (.if_icmp .eq (9), 3) := F_MD_wordHere_54.2.2.2.2.2.2.2.2.2.2.2.2.2.2.2.2.2.2.2.2.2.2.2.2.2.2.2.1
theorem d_MD_wordHere_108 : decode prog_12_method_8_code 108 = .ok (.iinc 2 (1), 3) := F_MD_wordHere_54.2.2.2.2.2.2.2.2.2.2.2.2.2.2.2.2.2.2.2.2.2.2.2.2.2.2.2.2.1
theorem d_MD_wordHere_111 : decode prog_12_method_8_code 111 = .ok (.goto (-14), 3) := F_MD_wordHere_54.2.2.2.2.2.2.2.2.2.2.2.2.2.2.2.2.2.2.2.2.2.2.2.2.2.2.2.2.2.1
theorem d_MD_wordHere_114 : decode prog_12_method_8_code 114 = .ok (.iinc 2 (1), 3) := F_MD_wordHere_54.2.2.2.2.2.2.2.2.2.2.2.2.2.2.2.2.2.2.2.2.2.2.2.2.2.2.2.2.2.2.1
theorem d_MD_wordHere_117 : decode prog_12_method_8_code 117 = .ok (.iinc 1 (1), 3) := F_MD_wordHere_54.2.2.2.2.2.2.2.2.2.2.2.2.2.2.2.2.2.2.2.2.2.2.2.2.2.2.2.2.2.2.2.1
theorem F_MD_wordHere_120 : Jvm.Free.DS.Facts prog_12_method_8_code 120 [(.goto (-116), 3), (.iconst (-1), 1), (.ireturn, 1)] := Jvm.Free.DS.facts 120 _ (by decide +kernel) (by decide +kernel)
theorem d_MD_wordHere_120 : decode prog_12_method_8_code 120 = .ok (.goto (-116), 3) := F_MD_wordHere_120.1
theorem d_MD_wordHere_123 : decode prog_12_method_8_code 123 = .ok (.iconst (-1), 1) := F_MD_wordHere_120.2.1
theorem d_MD_wordHere_124 : decode prog_12_method_8_code 124 = .ok (.ireturn, 1) := F_MD_wordHere_120.2.2.1
theorem F_MD_isDigit_0 : Jvm.Free.DS.Facts prog_12_method_6_code 0 [(.iload_n 0, 1), (.bipush (48), 2), (.if_icmp .lt (13), 3), (.iload_n 0, 1), (.bipush (57), 2), (.if_icmp .gt (7), 3), (.iconst 1, 1), (.goto (4), 3), (.iconst 0, 1), (.ireturn, 1)] := Jvm.Free.DS.facts 0 _ (by decide +kernel) (by decide +kernel)
theorem d_MD_isDigit_0 : decode prog_12_method_6_code 0 = .ok (.iload_n 0, 1) := F_MD_isDigit_0.1
theorem d_MD_isDigit_1 : decode prog_12_method_6_code 1 = .ok (.bipush (48), 2) := F_MD_isDigit_0.2.1
theorem d_MD_isDigit_3 : decode prog_12_method_6_code 3 = .ok (.if_icmp .lt (13), 3) := F_MD_isDigit_0.2.2.1
theorem d_MD_isDigit_6 : decode prog_12_method_6_code 6 = .ok (.iload_n 0, 1) := F_MD_isDigit_0.2.2.2.1
theorem d_MD_isDigit_7 : decode prog_12_method_6_code 7 = .ok (.bipush (57), 2) := F_MD_isDigit_0.2.2.2.2.1
theorem d_MD_isDigit_9 : decode prog_12_method_6_code 9 = .ok (.if_icmp .gt (7), 3) := F_MD_isDigit_0.2.2.2.2.2.1
theorem d_MD_isDigit_12 : decode prog_12_method_6_code 12 = .ok (.iconst 1, 1) := F_MD_isDigit_0.2.2.2.2.2.2.1
theorem d_MD_isDigit_13 : decode prog_12_method_6_code 13 = .ok (.goto (4), 3) := F_MD_isDigit_0.2.2.2.2.2.2.2.1
theorem d_MD_isDigit_16 : decode prog_12_method_6_code 16 = .ok (.iconst 0, 1) := F_MD_isDigit_0.2.2.2.2.2.2.2.2.1
theorem d_MD_isDigit_17 : decode prog_12_method_6_code 17 = .ok (.ireturn, 1) := F_MD_isDigit_0.2.2.2.2.2.2.2.2.2.1
theorem F_MD_readLine_0 : Jvm.Free.DS.Facts prog_12_method_20_code 0 [(.aload_n 0, 1), (.getfield 93, 3), (.ifCond .ne (10), 3), (.aload_n 0, 1), (.getfield 106, 3), (.goto (4), 3), (.iconst (-1), 1), (.istore_n 1, 1), (.iload_n 1, 1), (.ifCond .ne (10), 3), (.aload_n 0, 1), (.invokevirtual 186, 3), (.goto (32), 3), (.iload_n 1, 1), (.iconst 1, 1), (.if_icmp .ne (10), 3), (.aload_n 0, 1), (.invokevirtual 189, 3), (.goto (20), 3), (.iload_n 1, 1), (.iconst 2, 1), (.if_icmp .ne (10), 3), (.aload_n 0, 1), (.invokevirtual 192, 3), (.goto (8), 3), (.aload_n 0, 1), (.iconst 1, 1), (.invokevirtual 140, 3), (.aload_n 0, 1), (.invokevirtual 137, 3), (.aload_n 0, 1), (.dup, 1)] := Jvm.Free.DS.facts 0 _ (by decide +kernel) (by decide +kernel)
theorem d_MD_readLine_0 : decode prog_12_method_20_code 0 = .ok (.aload_n 0, 1) := F_MD_readLine_0.1
theorem d_MD_readLine_1 : decode prog_12_method_20_code 1 = .ok (.getfield 93, 3) := F_MD_readLine_0.2.1
theorem d_MD_readLine_4 : decode prog_12_method_20_code 4 = .ok (.ifCond .ne (10), 3) := F_MD_readLine_0.2.2.1
theorem d_MD_readLine_7 : decode prog_12_method_20_code 7 = .ok (.aload_n 0, 1) := F_MD_readLine_0.2.2.2.1
theorem d_MD_readLine_8 : decode prog_12_method_20_code 8 = .ok (.getfield 106, 3) := F_MD_readLine_0.2.2.2.2.1
theorem d_MD_readLine_11 : decode prog_12_method_20_code 11 = .ok (.goto (4), 3) := F_MD_readLine_0.2.2.2.2.2.1
theorem d_MD_readLine_14 : decode prog_12_method_20_code 14 = .ok (.iconst (-1), 1) := F_MD_readLine_0.2.2.2.2.2.2.1
theorem d_MD_readLine_15 : decode prog_12_method_20_code 15 = .ok (.istore_n 1, 1) := F_MD_readLine_0.2.2.2.2.2.2.2.1
theorem d_MD_readLine_16 : decode prog_12_method_20_code 16 = .ok (.iload_n 1, 1) := F_MD_readLine_0.2.2.2.2.2.2.2.2.1
theorem d_MD_readLine_17 : decode prog_12_method_20_code 17 = .ok (.ifCond .ne (10), 3) := F_MD_readLine_0.2.2.2.2.2.2.2.2.2.1
theorem d_MD_readLine_20 : decode prog_12_method_20_code 20 = .ok (.aload_n 0, 1) := F_MD_readLine_0.2.2.2.2.2.2.2.2.2.2.1
theorem d_MD_readLine_21 : decode prog_12_method_20_code 21 = .ok (.invokevirtual 186, 3) := F_MD_readLine_0.2.2.2.2.2.2.2.2.2.2.2.1
theorem d_MD_readLine_24 : decode prog_12_method_20_code 24 = .ok (.goto (32), 3) := F_MD_readLine_0.2.2.2.2.2.2.2.2.2.2.2.2.1
theorem d_MD_readLine_27 : decode prog_12_method_20_code 27 = .ok (.iload_n 1, 1) := F_MD_readLine_0.2.2.2.2.2.2.2.2.2.2.2.2.2.1
theorem d_MD_readLine_28 : decode prog_12_method_20_code 28 = .ok (.iconst 1, 1) := F_MD_readLine_0.2.2.2.2.2.2.2.2.2.2.2.2.2.2.1
theorem d_MD_readLine_29 : decode prog_12_method_20_code 29 = .ok (.if_icmp .ne (10), 3) := F_MD_readLine_0.2.2.2.2.2.2.2.2.2.2.2.2.2.2.2.1
theorem d_MD_readLine_32 : decode prog_12_method_20_code 32 = .ok (.aload_n 0, 1) := F_MD_readLine_0.2.2.2.2.2.2.2.2.2.2.2.2.2.2.2.2.1
theorem d_MD_readLine_33 : decode prog_12_method_20_code 33 = .ok (.invokevirtual 189, 3) := F_MD_readLine_0.2.2.2.2.2.2.2.2.2.2.2.2.2.2.2.2.2.1
theorem d_MD_readLine_36 : decode prog_12_method_20_code 36 = .ok (.goto (20), 3) := F_MD_readLine_0.2.2.2.2.2.2.2.2.2.2.2.2.2.2.2.2.2.2.1
theorem d_MD_readLine_39 : decode prog_12_method_20_code 39 = .ok (.iload_n 1, 1) := F_MD_readLine_0.2.2.2.2.2.2.2.2.2.2.2.2.2.2.2.2.2.2.2.1
theorem d_MD_readLine_40 : decode prog_12_method_20_code 40 = .ok (.iconst 2, 1) := F_MD_readLine_0.2.2.2.2.2.2.2.2.2.2.2.2.2.2.2.2.2.2.2.2.1
theorem d_MD_readLine_41 : decode prog_12_method_20_code 41 = .ok (.if_icmp .ne (10), 3) := F_MD_readLine_0.2.2.2.2.2.2.2.2.2.2.2.2.2.2.2.2.2.2.2.2.2.1
theorem d_MD_readLine_44 : decode prog_12_method_20_code 44 = .ok (.aload_n 0, 1) := F_MD_readLine_0.2.2.2.2.2.2.2.2.2.2.2.2.2.2.2.2.2.2.2.2.2.2.1
theorem d_MD_readLine_45 : decode prog_12_method_20_code 45 = .ok (.invokevirtual 192, 3) := F_MD_readLine_0.2.2.2.2.2.2.2.2.2.2.2.2.2.2.2.2.2.2.2.2.2.2.2.1
theorem d_MD_readLine_48 : decode prog_12_method_20_code 48 = .ok (.goto (8), 3) := F_MD_readLine_0.2.2.2.2.2.2.2.2.2.2.2.2.2.2.2.2.2.2.2.2.2.2.2.2.1
theorem d_MD_readLine_51 : decode prog_12_method_20_code 51 = .ok (.aload_n 0, 1) := F_MD_readLine_0.2.2.2.2.2.2.2.2.2.2.2.2.2.2.2.2.2.2.2.2.2.2.2.2.2.1
theorem d_MD_readLine_52 : decode prog_12_method_20_code 52 = .ok (.iconst 1, 1) := F_MD_readLine_0.2.2.2.2.2.2.2.2.2.2.2.2.2.2.2.2.2.2.2.2.2.2.2.2.2.2.1
theorem d_MD_readLine_53 : decode prog_12_method_20_code 53 = .ok (.invokevirtual 140, 3) := F_MD_readLine_0.2.2.2.2.2.2.2.2.2.2.2.2.2.2.2.2.2.2.2.2.2.2.2.2.2.2.2.1
theorem d_MD_readLine_56 : decode prog_12_method_20_code 56 = .ok (.aload_n 0, 1) := F_MD_readLine_0.2.2.2.2.2.2.2.2.2.2.2.2.2.2.2.2.2.2.2.2.2.2.2.2.2.2.2.2.1
theorem d_MD_readLine_57 : decode prog_12_method_20_code 57 = .ok (.invokevirtual 137, 3) := F_MD_readLine_0.2.2.2.2.2.2.2.2.2.2.2.2.2.2.2.2.2.2.2.2.2.2.2.2.2.2.2.2.2.1
theorem d_MD_readLine_60 : decode prog_12_method_20_code 60 = .ok (.aload_n 0, 1) := F_MD_readLine_0.2.2.2.2.2.2.2.2.2.2.2.2.2.2.2.2.2.2.2.2.2.2.2.2.2.2.2.2.2.2.1
theorem d_MD_readLine_61 : decode prog_12_method_20_code 61 = .ok (.dup, 1) := F_MD_readLine_0.2.2.2.2.2.2.2.2.2.2.2.2.2.2.2.2.2.2.2.2.2.2.2.2.2.2.2.2.2.2.2.1
theorem F_MD_readLine_62 : Jvm.Free.DS.Facts prog_12_method_20_code 62 [(.getfield 195, 3), (.iconst 1, 1), (.iadd, 1), (.putfield 195, 3), (.return_, 1)] := Jvm.Free.DS.facts 62 _ (by decide +kernel) (by decide +kernel)
theorem d_MD_readLine_62 : decode prog_12_method_20_code 62 = .ok (.getfield 195, 3) := F_MD_readLine_62.1
theorem d_MD_readLine_65 : decode prog_12_method_20_code 65 = .ok (.iconst 1, 1) := F_MD_readLine_62.2.1
theorem d_MD_readLine_66 : decode prog_12_method_20_code 66 = .ok (.iadd, 1) := F_MD_readLine_62.2.2.1
theorem d_MD_readLine_67 : decode prog_12_method_20_code 67 = .ok (.putfield 195, 3) := F_MD_readLine_62.2.2.2.1
theorem d_MD_readLine_70 : decode prog_12_method_20_code 70 = .ok (.return_, 1) := F_MD_readLine_62.2.2.2.2.1
theorem F_MD_readQuad_0 : Jvm.Free.DS.Facts prog_12_method_17_code 0 [(.aload_n 0, 1), (.getfield 144, 3), (.bipush (8), 2), (.if_icmp .ne (8), 3), (.aload_n 0, 1), (.iconst 2, 1), (.invokevirtual 140, 3), (.aload_n 0, 1), (.invokevirtual 137, 3), (.aload_n 0, 1), (.getfield 124, 3), (.ifCond .ne (15), 3), (.aload_n 0, 1), (.invokevirtual 147, 3), (.ifCond .ne (8), 3), (.aload_n 0, 1), (.iconst 1, 1), (.invokevirtual 140, 3), (.aload_n 0, 1), (.getfield 124, 3), (.ifCond .ne (16), 3), (.aload_n 0, 1), (.invokevirtual 151, 3), (.iconst (-1), 1), (.if_icmp .eq (8), 3), (.aload_n 0, 1), (.iconst 3, 1), (.invokevirtual 140, 3), (.aload_n 0, 1), (.getfield 124, 3), (.ifCond .ne (16), 3), (.aload_n 0, 1)] := Jvm.Free.DS.facts 0 _ (by decide +kernel) (by decide +kernel)
theorem d_MD_readQuad_0 : decode prog_12_method_17_code 0 = .ok (.aload_n 0, 1) := F_MD_readQuad_0.1
theorem d_MD_readQuad_1 : decode prog_12_method_17_code 1 = .ok (.getfield 144, 3) := F_MD_readQuad_0.2.1
theorem d_MD_readQuad_4 : decode prog_12_method_17_code 4 = .ok (.bipush (8), 2) := F_MD_readQuad_0.2.2.1
theorem d_MD_readQuad_6 : decode prog_12_method_17_code 6 = .ok (.if_icmp .ne (8), 3) := F_MD_readQuad_0.2.2.2.1
theorem d_MD_readQuad_9 : decode prog_12_method_17_code 9 = .ok (.aload_n 0, 1) := F_MD_readQuad_0.2.2.2.2.1
theorem d_MD_readQuad_10 : decode prog_12_method_17_code 10 = .ok (.iconst 2, 1) := F_MD_readQuad_0.2.2.2.2.2.1
theorem d_MD_readQuad_11 : decode prog_12_method_17_code 11 = .ok (.invokevirtual 140, 3) := F_MD_readQuad_0.2.2.2.2.2.2.1
theorem d_MD_readQuad_14 : decode prog_12_method_17_code 14 = .ok (.aload_n 0, 1) := F_MD_readQuad_0.2.2.2.2.2.2.2.1
theorem d_MD_readQuad_15 : decode prog_12_method_17_code 15 = .ok (.invokevirtual 137, 3) := F_MD_readQuad_0.2.2.2.2.2.2.2.2.1
theorem d_MD_readQuad_18 : decode prog_12_method_17_code 18 = .ok (.aload_n 0, 1) := F_MD_readQuad_0.2.2.2.2.2.2.2.2.2.1
theorem d_MD_readQuad_19 : decode prog_12_method_17_code 19 = .ok (.getfield 124, 3) := F_MD_readQuad_0.2.2.2.2.2.2.2.2.2.2.1
theorem d_MD_readQuad_22 : decode prog_12_method_17_code 22 = .ok (.ifCond .ne (15), 3) := F_MD_readQuad_0.2.2.2.2.2.2.2.2.2.2.2.1
theorem d_MD_readQuad_25 : decode prog_12_method_17_code 25 = .ok (.aload_n 0, 1) := F_MD_readQuad_0.2.2.2.2.2.2.2.2.2.2.2.2.1
theorem d_MD_readQuad_26 : decode prog_12_method_17_code 26 = .ok (.invokevirtual 147, 3) := F_MD_readQuad_0.2.2.2.2.2.2.2.2.2.2.2.2.2.1
theorem d_MD_readQuad_29 : decode prog_12_method_17_code 29 = .ok (.ifCond .ne (8), 3) := F_MD_readQuad_0.2.2.2.2.2.2.2.2.2.2.2.2.2.2.1
theorem d_MD_readQuad_32 : decode prog_12_method_17_code 32 = .ok (.aload_n 0, 1) := F_MD_readQuad_0.2.2.2.2.2.2.2.2.2.2.2.2.2.2.2.1
theorem d_MD_readQuad_33 : decode prog_12_method_17_code 33 = .ok (.iconst 1, 1) := F_MD_readQuad_0.2.2.2.2.2.2.2.2.2.2.2.2.2.2.2.2.1
theorem d_MD_readQuad_34 : decode prog_12_method_17_code 34 = .ok (.invokevirtual 140, 3) := F_MD_readQuad_0.2.2.2.2.2.2.2.2.2.2.2.2.2.2.2.2.2.1
theorem d_MD_readQuad_37 : decode prog_12_method_17_code 37 = .ok (.aload_n 0, 1) := F_MD_readQuad_0.2.2.2.2.2.2.2.2.2.2.2.2.2.2.2.2.2.2.1
theorem d_MD_readQuad_38 : decode prog_12_method_17_code 38 = .ok (.getfield 124, 3) := F_MD_readQuad_0.2.2.2.2.2.2.2.2.2.2.2.2.2.2.2.2.2.2.2.1
theorem d_MD_readQuad_41 : decode prog_12_method_17_code 41 = .ok (.ifCond .ne (16), 3) := F_MD_readQuad_0.2.2.2.2.2.2.2.2.2.2.2.2.2.2.2.2.2.2.2.2.1
theorem d_MD_readQuad_44 : decode prog_12_method_17_code 44 = .ok (.aload_n 0, 1) := F_MD_readQuad_0.2.2.2.2.2.2.2.2.2.2.2.2.2.2.2.2.2.2.2.2.2.1
theorem d_MD_readQuad_45 : decode prog_12_method_17_code 45 = .ok (.invokevirtual 151, 3) := F_MD_readQuad_0.2.2.2.2.2.2.2.2.2.2.2.2.2.2.2.2.2.2.2.2.2.2.1
theorem d_MD_readQuad_48 : decode prog_12_method_17_code 48 = .ok (.iconst (-1), 1) := F_MD_readQuad_0.2.2.2.2.2.2.2.2.2.2.2.2.2.2.2.2.2.2.2.2.2.2.2.1
theorem d_MD_readQuad_49 : decode prog_12_method_17_code 49 = .ok (.if_icmp .eq (8), 3) := F_MD_readQuad_0.2.2.2.2.2.2.2.2.2.2.2.2.2.2.2.2.2.2.2.2.2.2.2.2.1
theorem d_MD_readQuad_52 : decode prog_12_method_17_code 52 = .ok (.aload_n 0, 1) := F_MD_readQuad_0.2.2.2.2.2.2.2.2.2.2.2.2.2.2.2.2.2.2.2.2.2.2.2.2.2.1
theorem d_MD_readQuad_53 : decode prog_12_method_17_code 53 = .ok (.iconst 3, 1) := F_MD_readQuad_0.2.2.2.2.2.2.2.2.2.2.2.2.2.2.2.2.2.2.2.2.2.2.2.2.2.2.1
theorem d_MD_readQuad_54 : decode prog_12_method_17_code 54 = .ok (.invokevirtual 140, 3) := F_MD_readQuad_0.2.2.2.2.2.2.2.2.2.2.2.2.2.2.2.2.2.2.2.2.2.2.2.2.2.2.2.1
theorem d_MD_readQuad_57 : decode prog_12_method_17_code 57 = .ok (.aload_n 0, 1) := F_MD_readQuad_0.2.2.2.2.2.2.2.2.2.2.2.2.2.2.2.2.2.2.2.2.2.2.2.2.2.2.2.2.1
theorem d_MD_readQuad_58 : decode prog_12_method_17_code 58 = .ok (.getfield 124, 3) := F_MD_readQuad_0.2.2.2.2.2.2.2.2.2.2.2.2.2.2.2.2.2.2.2.2.2.2.2.2.2.2.2.2.2.1
theorem d_MD_readQuad_61 : decode prog_12_method_17_code 61 = .ok (.ifCond .ne (16), 3) := F_MD_readQuad_0.2.2.2.2.2.2.2.2.2.2.2.2.2.2.2.2.2.2.2.2.2.2.2.2.2.2.2.2.2.2.1
theorem d_MD_readQuad_64 : decode prog_12_method_17_code 64 = .ok (.aload_n 0, 1) := F_MD_readQuad_0.2.2.2.2.2.2.2.2.2.2.2.2.2.2.2.2.2.2.2.2.2.2.2.2.2.2.2.2.2.2.2.1
theorem F_MD_readQuad_65 : Jvm.Free.DS.Facts prog_12_method_17_code 65 [(.getfield 31, 3), (.aload_n 0, 1), (.getfield 144, 3), (.aload_n 0, 1), (.getfield 100, 3), (.iastore, 1), (.aload_n 0, 1), (.invokevirtual 137, 3), (.iconst 0, 1), (.istore_n 1, 1), (.iload_n 1, 1), (.bipush (8), 2), (.if_icmp .ge (29), 3), (.aload_n 0, 1), (.getfield 18, 3), (.bipush (8), 2), (.aload_n 0, 1), (.getfield 144, 3), (.imul, 1), (.iload_n 1, 1), (.iadd, 1), (.aload_n 0, 1), (.bipush (20), 2), (.invokevirtual 154, 3), (.iastore, 1), (.iinc 1 (1), 3), (.goto (-29), 3), (.aload_n 0, 1), (.invokevirtual 158, 3), (.ifCond .ne (4), 3), (.return_, 1), (.iconst 0, 1)] := Jvm.Free.DS.facts 65 _ (by decide +kernel) (by decide +kernel)
theorem d_MD_readQuad_65 : decode prog_12_method_17_code 65 = .ok (.getfield 31, 3) := F_MD_readQuad_65.1
theorem d_MD_readQuad_68 : decode prog_12_method_17_code 68 = .ok (.aload_n 0, 1) := F_MD_readQuad_65.2.1
theorem d_MD_readQuad_69 : decode prog_12_method_17_code 69 = .ok (.getfield 144, 3) := F_MD_readQuad_65.2.2.1
theorem d_MD_readQuad_72 : decode prog_12_method_17_code 72 = .ok (.aload_n 0, 1) := F_MD_readQuad_65.2.2.2.1
theorem d_MD_readQuad_73 : decode prog_12_method_17_code 73 = .ok (.getfield 100, 3) := F_MD_readQuad_65.2.2.2.2.1
theorem d_MD_readQuad_76 : decode prog_12_method_17_code 76 = .ok (.iastore, 1) := F_MD_readQuad_65.2.2.2.2.2.1
theorem d_MD_readQuad_77 : decode prog_12_method_17_code 77 = .ok (.aload_n 0, 1) := F_MD_readQuad_65.2.2.2.2.2.2.1
theorem d_MD_readQuad_78 : decode prog_12_method_17_code 78 = .ok (.invokevirtual 137, 3) := F_MD_readQuad_65.2.2.2.2.2.2.2.1
theorem d_MD_readQuad_81 : decode prog_12_method_17_code 81 = .ok (.iconst 0, 1) := F_MD_readQuad_65.2.2.2.2.2.2.2.2.1
theorem d_MD_readQuad_82 : decode prog_12_method_17_code 82 = .ok (.istore_n 1, 1) := F_MD_readQuad_65.2.2.2.2.2.2.2.2.2.1
theorem d_MD_readQuad_83 : decode prog_12_method_17_code 83 = .ok (.iload_n 1, 1) := F_MD_readQuad_65.2.2.2.2.2.2.2.2.2.2.1
theorem d_MD_readQuad_84 : decode prog_12_method_17_code 84 = .ok (.bipush (8), 2) := F_MD_readQuad_65.2.2.2.2.2.2.2.2.2.2.2.1
theorem d_MD_readQuad_86 : decode prog_12_method_17_code 86 = .ok (.if_icmp .ge (29), 3) := F_MD_readQuad_65.2.2.2.2.2.2.2.2.2.2.2.2.1
theorem d_MD_readQuad_89 : decode prog_12_method_17_code 89 = .ok (.aload_n 0, 1) := F_MD_readQuad_65.2.2.2.2.2.2.2.2.2.2.2.2.2.1
theorem d_MD_readQuad_90 : decode prog_12_method_17_code 90 = .ok (.getfield 18, 3) := F_MD_readQuad_65.2.2.2.2.2.2.2.2.2.2.2.2.2.2.1
theorem d_MD_readQuad_93 : decode prog_12_method_17_code 93 = .ok (.bipush (8), 2) := F_MD_readQuad_65.2.2.2.2.2.2.2.2.2.2.2.2.2.2.2.1
theorem d_MD_readQuad_95 : decode prog_12_method_17_code 95 = .ok (.aload_n 0, 1) := F_MD_readQuad_65.2.2.2.2.2.2.2.2.2.2.2.2.2.2.2.2.1
theorem d_MD_readQuad_96 : decode prog_12_method_17_code 96 = .ok (.getfield 144, 3) := F_MD_readQuad_65.2.2.2.2.2.2.2.2.2.2.2.2.2.2.2.2.2.1
theorem d_MD_readQuad_99 : decode prog_12_method_17_code 99 = .ok (.imul, 1) := F_MD_readQuad_65.2.2.2.2.2.2.2.2.2.2.2.2.2.2.2.2.2.2.1
theorem d_MD_readQuad_100 : decode prog_12_method_17_code 100 = .ok (.iload_n 1, 1) := F_MD_readQuad_65.2.2.2.2.2.2.2.2.2.2.2.2.2.2.2.2.2.2.2.1
theorem d_MD_readQuad_101 : decode prog_12_method_17_code 101 = .ok (.iadd, 1) := F_MD_readQuad_65.2.2.2.2.2.2.2.2.2.2.2.2.2.2.2.2.2.2.2.2.1
theorem d_MD_readQuad_102 : decode prog_12_method_17_code 102 = .ok (.aload_n 0, 1) := F_MD_readQuad_65.2.2.2.2.2.2.2.2.2.2.2.2.2.2.2.2.2.2.2.2.2.1
theorem d_MD_readQuad_103 : decode prog_12_method_17_code 103 = .ok (.bipush (20), 2) := F_MD_readQuad_65.2.2.2.2.2.2.2.2.2.2.2.2.2.2.2.2.2.2.2.2.2.2.1
theorem d_MD_readQuad_105 : decode prog_12_method_17_code 105 = .ok (.invokevirtual 154, 3) := F_MD_readQuad_65.2.2.2.2.2.2.2.2.2.2.2.2.2.2.2.2.2.2.2.2.2.2.2.1
theorem d_MD_readQuad_108 : decode prog_12_method_17_code 108 = .ok (.iastore, 1) := F_MD_readQuad_65.2.2.2.2.2.2.2.2.2.2.2.2.2.2.2.2.2.2.2.2.2.2.2.2.1
theorem d_MD_readQuad_109 : decode prog_12_method_17_code 109 = .ok (.iinc 1 (1), 3) := F_MD_readQuad_65.2.2.2.2.2.2.2.2.2.2.2.2.2.2.2.2.2.2.2.2.2.2.2.2.2.1
theorem d_MD_readQuad_112 : decode prog_12_method_17_code 112 = .ok (.goto (-29), 3) := F_MD_readQuad_65.2.2.2.2.2.2.2.2.2.2.2.2.2.2.2.2.2.2.2.2.2.2.2.2.2.2.1
theorem d_MD_readQuad_115 : decode prog_12_method_17_code 115 = .ok (.aload_n 0, 1) := F_MD_readQuad_65.2.2.2.2.2.2.2.2.2.2.2.2.2.2.2.2.2.2.2.2.2.2.2.2.2.2.2.1
theorem d_MD_readQuad_116 : decode prog_12_method_17_code 116 = .ok (.invokevirtual 158, 3) := F_MD_readQuad_65.2.2.2.2.2.2.2.2.2.2.2.2.2.2.2.2.2.2.2.2.2.2.2.2.2.2.2.2.1
theorem d_MD_readQuad_119 : decode prog_12_method_17_code 119 = .ok (.ifCond .ne (4), 3) := F_MD_readQuad_65.2.2.2.2.2.2.2.2.2.2.2.2.2.2.2.2.2.2.2.2.2.2.2.2.2.2.2.2.2.1
theorem d_MD_readQuad_122 : decode prog_12_method_17_code 122 = .ok (.return_, 1) := F_MD_readQuad_65.2.2.2.2.2.2.2.2.2.2.2.2.2.2.2.2.2.2.2.2.2.2.2.2.2.2.2.2.2.2.1
theorem d_MD_readQuad_123 : decode prog_12_method_17_code 123 = .ok (.iconst 0, 1) := F_MD_readQuad_65.2.2.2.2.2.2.2.2.2.2.2.2.2.2.2.2.2.2.2.2.2.2.2.2.2.2.2.2.2.2.2.1
theorem F_MD_readQuad_124 : Jvm.Free.DS.Facts prog_12_method_17_code 124 [(.istore_n 1, 1), (.iload_n 1, 1), (.iconst 4, 1), (.if_icmp .ge (43), 3), (.aload_n 0, 1), (.getfield 18, 3), (.aload_n 0, 1), (.getfield 144, 3), (.iload_n 1, 1), (.iconst 1, 1), (.iadd, 1), (.iconst 4, 1), (.irem, 1), (.iload_n 1, 1), (.iconst 2, 1), (.iadd, 1), (.iconst 4, 1), (.irem, 1), (.iload_n 1, 1), (.iconst 3, 1), (.iadd, 1), (.iconst 4, 1), (.irem, 1), (.invokestatic 161, 3), (.ifCond .ne (8), 3), (.aload_n 0, 1), (.iconst 4, 1), (.invokevirtual 140, 3), (.iinc 1 (1), 3), (.goto (-42), 3), (.aload_n 0, 1), (.dup, 1)] := Jvm.Free.DS.facts 124 _ (by decide +kernel) (by decide +kernel)
theorem d_MD_readQuad_124 : decode prog_12_method_17_code 124 = .ok (.istore_n 1, 1) := F_MD_readQuad_124.1
theorem d_MD_readQuad_125 : decode prog_12_method_17_code 125 = .ok (.iload_n 1, 1) := F_MD_readQuad_124.2.1
theorem d_MD_readQuad_126 : decode prog_12_method_17_code 126 = .ok (.iconst 4, 1) := F_MD_readQuad_124.2.2.1
theorem d_MD_readQuad_127 : decode prog_12_method_17_code 127 = .ok (.if_icmp .ge (43), 3) := F_MD_readQuad_124.2.2.2.1
theorem d_MD_readQuad_130 : decode prog_12_method_17_code 130 = .ok (.aload_n 0, 1) := F_MD_readQuad_124.2.2.2.2.1
theorem d_MD_readQuad_131 : decode prog_12_method_17_code 131 = .ok (.getfield 18, 3) := F_MD_readQuad_124.2.2.2.2.2.1
theorem d_MD_readQuad_134 : decode prog_12_method_17_code 134 = .ok (.aload_n 0, 1) := F_MD_readQuad_124.2.2.2.2.2.2.1
theorem d_MD_readQuad_135 : decode prog_12_method_17_code 135 = .ok (.getfield 144, 3) := F_MD_readQuad_124.2.2.2.2.2.2.2.1
theorem d_MD_readQuad_138 : decode prog_12_method_17_code 138 = .ok (.iload_n 1, 1) := F_MD_readQuad_124.2.2.2.2.2.2.2.2.1
theorem d_MD_readQuad_139 : decode prog_12_method_17_code 139 = .ok (.iconst 1, 1) := F_MD_readQuad_124.2.2.2.2.2.2.2.2.2.1
theorem d_MD_readQuad_140 : decode prog_12_method_17_code 140 = .ok (.iadd, 1) := F_MD_readQuad_124.2.2.2.2.2.2.2.2.2.2.1
theorem d_MD_readQuad_141 : decode prog_12_method_17_code 141 = .ok (.iconst 4, 1) := F_MD_readQuad_124.2.2.2.2.2.2.2.2.2.2.2.1
theorem d_MD_readQuad_142 : decode prog_12_method_17_code 142 = .ok (.irem, 1) := F_MD_readQuad_124.2.2.2.2.2.2.2.2.2.2.2.2.1
theorem d_MD_readQuad_143 : decode prog_12_method_17_code 143 = .ok (.iload_n 1, 1) := F_MD_readQuad_124.2.2.2.2.2.2.2.2.2.2.2.2.2.1
theorem d_MD_readQuad_144 : decode prog_12_method_17_code 144 = .ok (.iconst 2, 1) := F_MD_readQuad_124.2.2.2.2.2.2.2.2.2.2.2.2.2.2.1
theorem d_MD_readQuad_145 : decode prog_12_method_17_code 145 = .ok (.iadd, 1) := F_MD_readQuad_124.2.2.2.2.2.2.2.2.2.2.2.2.2.2.2.1
theorem d_MD_readQuad_146 : decode prog_12_method_17_code 146 = .ok (.iconst 4, 1) := F_MD_readQuad_124.2.2.2.2.2.2.2.2.2.2.2.2.2.2.2.2.1
theorem d_MD_readQuad_147 : decode prog_12_method_17_code 147 = .ok (.irem, 1) := F_MD_readQuad_124.2.2.2.2.2.2.2.2.2.2.2.2.2.2.2.2.2.1
theorem d_MD_readQuad_148 : decode prog_12_method_17_code 148 = .ok (.iload_n 1, 1) := F_MD_readQuad_124.2.2.2.2.2.2.2.2.2.2.2.2.2.2.2.2.2.2.1
theorem d_MD_readQuad_149 : decode prog_12_method_17_code 149 = .ok (.iconst 3, 1) := F_MD_readQuad_124.2.2.2.2.2.2.2.2.2.2.2.2.2.2.2.2.2.2.2.1
theorem d_MD_readQuad_150 : decode prog_12_method_17_code 150 = .ok (.iadd, 1) := F_MD_readQuad_124.2.2.2.2.2.2.2.2.2.2.2.2.2.2.2.2.2.2.2.2.1
theorem d_MD_readQuad_151 : decode prog_12_method_17_code 151 = .ok (.iconst 4, 1) := F_MD_readQuad_124.2.2.2.2.2.2.2.2.2.2.2.2.2.2.2.2.2.2.2.2.2.1
theorem d_MD_readQuad_152 : decode prog_12_method_17_code 152 = .ok (.irem, 1) := F_MD_readQuad_124.2.2.2.2.2.2.2.2.2.2.2.2.2.2.2.2.2.2.2.2.2.2.1
theorem d_MD_readQuad_153 : decode prog_12_method_17_code 153 = .ok (.invokestatic 161, 3) := F_MD_readQuad_124.2.2.2.2.2.2.2.2.2.2.2.2.2.2.2.2.2.2.2.2.2.2.2.1
theorem d_MD_readQuad_156 : decode prog_12_method_17_code 156 = .ok (.ifCond .ne (8), 3) := F_MD_readQuad_124.2.2.2.2.2.2.2.2.2.2.2.2.2.2.2.2.2.2.2.2.2.2.2.2.1
theorem d_MD_readQuad_159 : decode prog_12_method_17_code 159 = .ok (.aload_n 0, 1) := F_MD_readQuad_124.2.2.2.2.2.2.2.2.2.2.2.2.2.2.2.2.2.2.2.2.2.2.2.2.2.1
theorem d_MD_readQuad_160 : decode prog_12_method_17_code 160 = .ok (.iconst 4, 1) := F_MD_readQuad_124.2.2.2.2.2.2.2.2.2.2.2.2.2.2.2.2.2.2.2.2.2.2.2.2.2.2.1
theorem d_MD_readQuad_161 : decode prog_12_method_17_code 161 = .ok (.invokevirtual 140, 3) := F_MD_readQuad_124.2.2.2.2.2.2.2.2.2.2.2.2.2.2.2.2.2.2.2.2.2.2.2.2.2.2.2.1
theorem d_MD_readQuad_164 : decode prog_12_method_17_code 164 = .ok (.iinc 1 (1), 3) := F_MD_readQuad_124.2.2.2.2.2.2.2.2.2.2.2.2.2.2.2.2.2.2.2.2.2.2.2.2.2.2.2.2.1
theorem d_MD_readQuad_167 : decode prog_12_method_17_code 167 = .ok (.goto (-42), 3) := F_MD_readQuad_124.2.2.2.2.2.2.2.2.2.2.2.2.2.2.2.2.2.2.2.2.2.2.2.2.2.2.2.2.2.1
theorem d_MD_readQuad_170 : decode prog_12_method_17_code 170 = .ok (.aload_n 0, 1) := F_MD_readQuad_124.2.2.2.2.2.2.2.2.2.2.2.2.2.2.2.2.2.2.2.2.2.2.2.2.2.2.2.2.2.2.1
theorem d_MD_readQuad_171 : decode prog_12_method_17_code 171 = .ok (.dup, 1) := F_MD_readQuad_124.2.2.2.2.2.2.2.2.2.2.2.2.2.2.2.2.2.2.2.2.2.2.2.2.2.2.2.2.2.2.2.1
theorem F_MD_readQuad_172 : Jvm.Free.DS.Facts prog_12_method_17_code 172 [(.getfield 144, 3), (.iconst 1, 1), (.iadd, 1), (.putfield 144, 3), (.return_, 1)] := Jvm.Free.DS.facts 172 _ (by decide +kernel) (by decide +kernel)
theorem d_MD_readQuad_172 : decode prog_12_method_17_code 172 = .ok (.getfield 144, 3) := F_MD_readQuad_172.1
theorem d_MD_readQuad_175 : decode prog_12_method_17_code 175 = .ok (.iconst 1, 1) := F_MD_readQuad_172.2.1
theorem d_MD_readQuad_176 : decode prog_12_method_17_code 176 = .ok (.iadd, 1) := F_MD_readQuad_172.2.2.1
theorem d_MD_readQuad_177 : decode prog_12_method_17_code 177 = .ok (.putfield 144, 3) := F_MD_readQuad_172.2.2.2.1
theorem d_MD_readQuad_180 : decode prog_12_method_17_code 180 = .ok (.return_, 1) := F_MD_readQuad_172.2.2.2.2.1
theorem F_MD_wrong_0 : Jvm.Free.DS.Facts prog_12_method_10_code 0 [(.aload_n 0, 1), (.iload_n 1, 1), (.aload_n 0, 1), (.getfield 90, 3), (.invokevirtual 130, 3), (.return_, 1)] := Jvm.Free.DS.facts 0 _ (by decide +kernel) (by decide +kernel)
theorem d_MD_wrong_0 : decode prog_12_method_10_code 0 = .ok (.aload_n 0, 1) := F_MD_wrong_0.1
theorem d_MD_wrong_1 : decode prog_12_method_10_code 1 = .ok (.iload_n 1, 1) := F_MD_wrong_0.2.1
theorem d_MD_wrong_2 : decode prog_12_method_10_code 2 = .ok (.aload_n 0, 1) := F_MD_wrong_0.2.2.1
theorem d_MD_wrong_3 : decode prog_12_method_10_code 3 = .ok (.getfield 90, 3) := F_MD_wrong_0.2.2.2.1
theorem d_MD_wrong_6 : decode prog_12_method_10_code 6 = .ok (.invokevirtual 130, 3) := F_MD_wrong_0.2.2.2.2.1
theorem d_MD_wrong_9 : decode prog_12_method_10_code 9 = .ok (.return_, 1) := F_MD_wrong_0.2.2.2.2.2.1
theorem F_MD_wrongAt_0 : Jvm.Free.DS.Facts prog_12_method_9_code 0 [(.aload_n 0, 1), (.getfield 124, 3), (.ifCond .eq (4), 3), (.return_, 1), (.aload_n 0, 1), (.iload_n 1, 1), (.putfield 124, 3), (.aload_n 0, 1), (.iload_n 2, 1), (.putfield 127, 3), (.return_, 1)] := Jvm.Free.DS.facts 0 _ (by decide +kernel) (by decide +kernel)
theorem d_MD_wrongAt_0 : decode prog_12_method_9_code 0 = .ok (.aload_n 0, 1) := F_MD_wrongAt_0.1
theorem d_MD_wrongAt_1 : decode prog_12_method_9_code 1 = .ok (.getfield 124, 3) := F_MD_wrongAt_0.2.1
theorem d_MD_wrongAt_4 : decode prog_12_method_9_code 4 = .ok (.ifCond .eq (4), 3) := F_MD_wrongAt_0.2.2.1
theorem d_MD_wrongAt_7 : decode prog_12_method_9_code 7 = .ok (.return_, 1) := F_MD_wrongAt_0.2.2.2.1
theorem d_MD_wrongAt_8 : decode prog_12_method_9_code 8 = .ok (.aload_n 0, 1) := F_MD_wrongAt_0.2.2.2.2.1
theorem d_MD_wrongAt_9 : decode prog_12_method_9_code 9 = .ok (.iload_n 1, 1) := F_MD_wrongAt_0.2.2.2.2.2.1
theorem d_MD_wrongAt_10 : decode prog_12_method_9_code 10 = .ok (.putfield 124, 3) := F_MD_wrongAt_0.2.2.2.2.2.2.1
theorem d_MD_wrongAt_13 : decode prog_12_method_9_code 13 = .ok (.aload_n 0, 1) := F_MD_wrongAt_0.2.2.2.2.2.2.2.1
theorem d_MD_wrongAt_14 : decode prog_12_method_9_code 14 = .ok (.iload_n 2, 1) := F_MD_wrongAt_0.2.2.2.2.2.2.2.2.1
theorem d_MD_wrongAt_15 : decode prog_12_method_9_code 15 = .ok (.putfield 127, 3) := F_MD_wrongAt_0.2.2.2.2.2.2.2.2.2.1
theorem d_MD_wrongAt_18 : decode prog_12_method_9_code 18 = .ok (.return_, 1) := F_MD_wrongAt_0.2.2.2.2.2.2.2.2.2.2.1
theorem F_MD_goOn_0 : Jvm.Free.DS.Facts prog_12_method_11_code 0 [(.aload_n 0, 1), (.getfield 124, 3), (.ifCond .ne (7), 3), (.aload_n 0, 1), (.invokevirtual 134, 3), (.return_, 1)] := Jvm.Free.DS.facts 0 _ (by decide +kernel) (by decide +kernel)
theorem d_MD_goOn_0 : decode prog_12_method_11_code 0 = .ok (.aload_n 0, 1) := F_MD_goOn_0.1
theorem d_MD_goOn_1 : decode prog_12_method_11_code 1 = .ok (.getfield 124, 3) := F_MD_goOn_0.2.1
theorem d_MD_goOn_4 : decode prog_12_method_11_code 4 = .ok (.ifCond .ne (7), 3) := F_MD_goOn_0.2.2.1
theorem d_MD_goOn_7 : decode prog_12_method_11_code 7 = .ok (.aload_n 0, 1) := F_MD_goOn_0.2.2.2.1
theorem d_MD_goOn_8 : decode prog_12_method_11_code 8 = .ok (.invokevirtual 134, 3) := F_MD_goOn_0.2.2.2.2.1
theorem d_MD_goOn_11 : decode prog_12_method_11_code 11 = .ok (.return_, 1) := F_MD_goOn_0.2.2.2.2.2.1
theorem F_MD_isOther_0 : Jvm.Free.DS.Facts prog_12_method_12_code 0 [(.aload_n 0, 1), (.getfield 124, 3), (.ifCond .ne (22), 3), (.aload_n 0, 1), (.getfield 93, 3), (.ifCond .ne (15), 3), (.aload_n 0, 1), (.getfield 106, 3), (.iconst (-1), 1), (.if_icmp .ne (7), 3), (.iconst 1, 1), (.goto (4), 3), (.iconst 0, 1), (.ireturn, 1)] := Jvm.Free.DS.facts 0 _ (by decide +kernel) (by decide +kernel)
theorem d_MD_isOther_0 : decode prog_12_method_12_code 0 = .ok (.aload_n 0, 1) := F_MD_isOther_0.1
theorem d_MD_isOther_1 : decode prog_12_method_12_code 1 = .ok (.getfield 124, 3) := F_MD_isOther_0.2.1
theorem d_MD_isOther_4 : decode prog_12_method_12_code 4 = .ok (.ifCond .ne (22), 3) := F_MD_isOther_0.2.2.1
theorem d_MD_isOther_7 : decode prog_12_method_12_code 7 = .ok (.aload_n 0, 1) := F_MD_isOther_0.2.2.2.1
theorem d_MD_isOther_8 : decode prog_12_method_12_code 8 = .ok (.getfield 93, 3) := F_MD_isOther_0.2.2.2.2.1
theorem d_MD_isOther_11 : decode prog_12_method_12_code 11 = .ok (.ifCond .ne (15), 3) := F_MD_isOther_0.2.2.2.2.2.1
theorem d_MD_isOther_14 : decode prog_12_method_12_code 14 = .ok (.aload_n 0, 1) := F_MD_isOther_0.2.2.2.2.2.2.1
theorem d_MD_isOther_15 : decode prog_12_method_12_code 15 = .ok (.getfield 106, 3) := F_MD_isOther_0.2.2.2.2.2.2.2.1
theorem d_MD_isOther_18 : decode prog_12_method_12_code 18 = .ok (.iconst (-1), 1) := F_MD_isOther_0.2.2.2.2.2.2.2.2.1
theorem d_MD_isOther_19 : decode prog_12_method_12_code 19 = .ok (.if_icmp .ne (7), 3) := F_MD_isOther_0.2.2.2.2.2.2.2.2.2.1
theorem d_MD_isOther_22 : decode prog_12_method_12_code 22 = .ok (.iconst 1, 1) := F_MD_isOther_0.2.2.2.2.2.2.2.2.2.2.1
theorem d_MD_isOther_23 : decode prog_12_method_12_code 23 = .ok (.goto (4), 3) := F_MD_isOther_0.2.2.2.2.2.2.2.2.2.2.2.1
theorem d_MD_isOther_26 : decode prog_12_method_12_code 26 = .ok (.iconst 0, 1) := F_MD_isOther_0.2.2.2.2.2.2.2.2.2.2.2.2.1
theorem d_MD_isOther_27 : decode prog_12_method_12_code 27 = .ok (.ireturn, 1) := F_MD_isOther_0.2.2.2.2.2.2.2.2.2.2.2.2.2.1
theorem F_MD_quadNamed_0 : Jvm.Free.DS.Facts prog_12_method_14_code 0 [(.iconst 0, 1), (.istore_n 1, 1), (.iload_n 1, 1), (.aload_n 0, 1), (.getfield 144, 3), (.if_icmp .ge (24), 3), (.aload_n 0, 1), (.getfield 31, 3), (.iload_n 1, 1), (.iaload, 1), (.aload_n 0, 1), (.getfield 100, 3), (.if_icmp .ne (5), 3), (.iload_n 1, 1), (.ireturn, 1), (.iinc 1 (1), 3), (.goto (-26), 3), (.iconst (-1), 1), (.ireturn, 1)] := Jvm.Free.DS.facts 0 _ (by decide +kernel) (by decide +kernel)
theorem d_MD_quadNamed_0 : decode prog_12_method_14_code 0 = .ok (.iconst 0, 1) := F_MD_quadNamed_0.1
theorem d_MD_quadNamed_1 : decode prog_12_method_14_code 1 = .ok (.istore_n 1, 1) := F_MD_quadNamed_0.2.1
theorem d_MD_quadNamed_2 : decode prog_12_method_14_code 2 = .ok (.iload_n 1, 1) := F_MD_quadNamed_0.2.2.1
theorem d_MD_quadNamed_3 : decode prog_12_method_14_code 3 = .ok (.aload_n 0, 1) := F_MD_quadNamed_0.2.2.2.1
theorem d_MD_quadNamed_4 : decode prog_12_method_14_code 4 = .ok (.getfield 144, 3) := F_MD_quadNamed_0.2.2.2.2.1
theorem d_MD_quadNamed_7 : decode prog_12_method_14_code 7 = .ok (.if_icmp .ge (24), 3) := F_MD_quadNamed_0.2.2.2.2.2.1
theorem d_MD_quadNamed_10 : decode prog_12_method_14_code 10 = .ok (.aload_n 0, 1) := F_MD_quadNamed_0.2.2.2.2.2.2.1
theorem d_MD_quadNamed_11 : decode prog_12_method_14_code 11 = .ok (.getfield 31, 3) := F_MD_quadNamed_0.2.2.2.2.2.2.2.1
theorem d_MD_quadNamed_14 : decode prog_12_method_14_code 14 = .ok (.iload_n 1, 1) := F_MD_quadNamed_0.2.2.2.2.2.2.2.2.1
theorem d_MD_quadNamed_15 : decode prog_12_method_14_code 15 = .ok (.iaload, 1) := F_MD_quadNamed_0.2.2.2.2.2.2.2.2.2.1
theorem d_MD_quadNamed_16 : decode prog_12_method_14_code 16 = .ok (.aload_n 0, 1) := F_MD_quadNamed_0.2.2.2.2.2.2.2.2.2.2.1
theorem d_MD_quadNamed_17 : decode prog_12_method_14_code 17 = .ok (.getfield 100, 3) := F_MD_quadNamed_0.2.2.2.2.2.2.2.2.2.2.2.1
theorem d_MD_quadNamed_20 : decode prog_12_method_14_code 20 = .ok (.if_icmp .ne (5), 3) := F_MD_quadNamed_0.2.2.2.2.2.2.2.2.2.2.2.2.1
theorem d_MD_quadNamed_23 : decode prog_12_method_14_code 23 = .ok (.iload_n 1, 1) := F_MD_quadNamed_0.2.2.2.2.2.2.2.2.2.2.2.2.2.1
theorem d_MD_quadNamed_24 : decode prog_12_method_14_code 24 = .ok (.ireturn, 1) := F_MD_quadNamed_0.2.2.2.2.2.2.2.2.2.2.2.2.2.2.1
theorem d_MD_quadNamed_25 : decode prog_12_method_14_code 25 = .ok (.iinc 1 (1), 3) := F_MD_quadNamed_0.2.2.2.2.2.2.2.2.2.2.2.2.2.2.2.1
theorem d_MD_quadNamed_28 : decode prog_12_method_14_code 28 = .ok (.goto (-26), 3) := F_MD_quadNamed_0.2.2.2.2.2.2.2.2.2.2.2.2.2.2.2.2.1
theorem d_MD_quadNamed_31 : decode prog_12_method_14_code 31 = .ok (.iconst (-1), 1) := F_MD_quadNamed_0.2.2.2.2.2.2.2.2.2.2.2.2.2.2.2.2.2.1
theorem d_MD_quadNamed_32 : decode prog_12_method_14_code 32 = .ok (.ireturn, 1) := F_MD_quadNamed_0.2.2.2.2.2.2.2.2.2.2.2.2.2.2.2.2.2.2.1
theorem F_MD_number_0 : Jvm.Free.DS.Facts prog_12_method_13_code 0 [(.aload_n 0, 1), (.getfield 90, 3), (.istore_n 2, 1), (.aload_n 0, 1), (.getfield 124, 3), (.ifCond .ne (15), 3), (.aload_n 0, 1), (.getfield 93, 3), (.iconst 5, 1), (.if_icmp .ne (7), 3), (.iconst 1, 1), (.goto (4), 3), (.iconst 0, 1), (.istore_n 3, 1), (.iload_n 3, 1), (.ifCond .eq (7), 3), (.aload_n 0, 1), (.invokevirtual 137, 3), (.aload_n 0, 1), (.getfield 124, 3), (.ifCond .ne (16), 3), (.aload_n 0, 1), (.getfield 93, 3), (.iconst 1, 1), (.if_icmp .eq (8), 3), (.aload_n 0, 1), (.iconst 1, 1), (.invokevirtual 140, 3), (.aload_n 0, 1), (.getfield 124, 3), (.ifCond .ne (17), 3), (.aload_n 0, 1)] := Jvm.Free.DS.facts 0 _ (by decide +kernel) (by decide +kernel)
theorem d_MD_number_0 : decode prog_12_method_13_code 0 = .ok (.aload_n 0, 1) := F_MD_number_0.1
theorem d_MD_number_1 : decode prog_12_method_13_code 1 = .ok (.getfield 90, 3) := F_MD_number_0.2.1
theorem d_MD_number_4 : decode prog_12_method_13_code 4 = .ok (.istore_n 2, 1) := F_MD_number_0.2.2.1
theorem d_MD_number_5 : decode prog_12_method_13_code 5 = .ok (.aload_n 0, 1) := F_MD_number_0.2.2.2.1
theorem d_MD_number_6 : decode prog_12_method_13_code 6 = .ok (.getfield 124, 3) := F_MD_number_0.2.2.2.2.1
theorem d_MD_number_9 : decode prog_12_method_13_code 9 = .ok (.ifCond .ne (15), 3) := F_MD_number_0.2.2.2.2.2.1
theorem d_MD_number_12 : decode prog_12_method_13_code 12 = .ok (.aload_n 0, 1) := F_MD_number_0.2.2.2.2.2.2.1
theorem d_MD_number_13 : decode prog_12_method_13_code 13 = .ok (.getfield 93, 3) := F_MD_number_0.2.2.2.2.2.2.2.1
theorem d_MD_number_16 : decode prog_12_method_13_code 16 = .ok (.iconst 5, 1) := F_MD_number_0.2.2.2.2.2.2.2.2.1
theorem d_MD_number_17 : decode prog_12_method_13_code 17 = .ok (.if_icmp .ne (7), 3) := F_MD_number_0.2.2.2.2.2.2.2.2.2.1
theorem d_MD_number_20 : decode prog_12_method_13_code 20 = .ok (.iconst 1, 1) := F_MD_number_0.2.2.2.2.2.2.2.2.2.2.1
theorem d_MD_number_21 : decode prog_12_method_13_code 21 = .ok (.goto (4), 3) := F_MD_number_0.2.2.2.2.2.2.2.2.2.2.2.1
theorem d_MD_number_24 : decode prog_12_method_13_code 24 = .ok (.iconst 0, 1) := F_MD_number_0.2.2.2.2.2.2.2.2.2.2.2.2.1
theorem d_MD_number_25 : decode prog_12_method_13_code 25 = .ok (.istore_n 3, 1) := F_MD_number_0.2.2.2.2.2.2.2.2.2.2.2.2.2.1
theorem d_MD_number_26 : decode prog_12_method_13_code 26 = .ok (.iload_n 3, 1) := F_MD_number_0.2.2.2.2.2.2.2.2.2.2.2.2.2.2.1
theorem d_MD_number_27 : decode prog_12_method_13_code 27 = .ok (.ifCond .eq (7), 3) := F_MD_number_0.2.2.2.2.2.2.2.2.2.2.2.2.2.2.2.1
theorem d_MD_number_30 : decode prog_12_method_13_code 30 = .ok (.aload_n 0, 1) := F_MD_number_0.2.2.2.2.2.2.2.2.2.2.2.2.2.2.2.2.1
theorem d_MD_number_31 : decode prog_12_method_13_code 31 = .ok (.invokevirtual 137, 3) := F_MD_number_0.2.2.2.2.2.2.2.2.2.2.2.2.2.2.2.2.2.1
theorem d_MD_number_34 : decode prog_12_method_13_code 34 = .ok (.aload_n 0, 1) := F_MD_number_0.2.2.2.2.2.2.2.2.2.2.2.2.2.2.2.2.2.2.1
theorem d_MD_number_35 : decode prog_12_method_13_code 35 = .ok (.getfield 124, 3) := F_MD_number_0.2.2.2.2.2.2.2.2.2.2.2.2.2.2.2.2.2.2.2.1
theorem d_MD_number_38 : decode prog_12_method_13_code 38 = .ok (.ifCond .ne (16), 3) := F_MD_number_0.2.2.2.2.2.2.2.2.2.2.2.2.2.2.2.2.2.2.2.2.1
theorem d_MD_number_41 : decode prog_12_method_13_code 41 = .ok (.aload_n 0, 1) := F_MD_number_0.2.2.2.2.2.2.2.2.2.2.2.2.2.2.2.2.2.2.2.2.2.1
theorem d_MD_number_42 : decode prog_12_method_13_code 42 = .ok (.getfield 93, 3) := F_MD_number_0.2.2.2.2.2.2.2.2.2.2.2.2.2.2.2.2.2.2.2.2.2.2.1
theorem d_MD_number_45 : decode prog_12_method_13_code 45 = .ok (.iconst 1, 1) := F_MD_number_0.2.2.2.2.2.2.2.2.2.2.2.2.2.2.2.2.2.2.2.2.2.2.2.1
theorem d_MD_number_46 : decode prog_12_method_13_code 46 = .ok (.if_icmp .eq (8), 3) := F_MD_number_0.2.2.2.2.2.2.2.2.2.2.2.2.2.2.2.2.2.2.2.2.2.2.2.2.1
theorem d_MD_number_49 : decode prog_12_method_13_code 49 = .ok (.aload_n 0, 1) := F_MD_number_0.2.2.2.2.2.2.2.2.2.2.2.2.2.2.2.2.2.2.2.2.2.2.2.2.2.1
theorem d_MD_number_50 : decode prog_12_method_13_code 50 = .ok (.iconst 1, 1) := F_MD_number_0.2.2.2.2.2.2.2.2.2.2.2.2.2.2.2.2.2.2.2.2.2.2.2.2.2.2.1
theorem d_MD_number_51 : decode prog_12_method_13_code 51 = .ok (.invokevirtual 140, 3) := F_MD_number_0.2.2.2.2.2.2.2.2.2.2.2.2.2.2.2.2.2.2.2.2.2.2.2.2.2.2.2.1
theorem d_MD_number_54 : decode prog_12_method_13_code 54 = .ok (.aload_n 0, 1) := F_MD_number_0.2.2.2.2.2.2.2.2.2.2.2.2.2.2.2.2.2.2.2.2.2.2.2.2.2.2.2.2.1
theorem d_MD_number_55 : decode prog_12_method_13_code 55 = .ok (.getfield 124, 3) := F_MD_number_0.2.2.2.2.2.2.2.2.2.2.2.2.2.2.2.2.2.2.2.2.2.2.2.2.2.2.2.2.2.1
theorem d_MD_number_58 : decode prog_12_method_13_code 58 = .ok (.ifCond .ne (17), 3) := F_MD_number_0.2.2.2.2.2.2.2.2.2.2.2.2.2.2.2.2.2.2.2.2.2.2.2.2.2.2.2.2.2.2.1
theorem d_MD_number_61 : decode prog_12_method_13_code 61 = .ok (.aload_n 0, 1) := F_MD_number_0.2.2.2.2.2.2.2.2.2.2.2.2.2.2.2.2.2.2.2.2.2.2.2.2.2.2.2.2.2.2.2.1
theorem F_MD_number_62 : Jvm.Free.DS.Facts prog_12_method_13_code 62 [(.getfield 106, 3), (.iload_n 1, 1), (.if_icmp .le (9), 3), (.aload_n 0, 1), (.iconst 2, 1), (.iload_n 2, 1), (.invokevirtual 130, 3), (.aload_n 0, 1), (.getfield 124, 3), (.ifCond .ne (10), 3), (.aload_n 0, 1), (.getfield 106, 3), (.goto (4), 3), (.iconst 0, 1), (.istore 4, 2), (.aload_n 0, 1), (.invokevirtual 137, 3), (.iload_n 3, 1), (.ifCond .eq (9), 3), (.iload 4, 2), (.ineg, 1), (.goto (5), 3), (.iload 4, 2), (.ireturn, 1)] := Jvm.Free.DS.facts 62 _ (by decide +kernel) (by decide +kernel)
theorem d_MD_number_62 : decode prog_12_method_13_code 62 = .ok (.getfield 106, 3) := F_MD_number_62.1
theorem d_MD_number_65 : decode prog_12_method_13_code 65 = .ok (.iload_n 1, 1) := F_MD_number_62.2.1
theorem d_MD_number_66 : decode prog_12_method_13_code 66 = .ok (.if_icmp .le (9), 3) := F_MD_number_62.2.2.1
theorem d_MD_number_69 : decode prog_12_method_13_code 69 = .ok (.aload_n 0, 1) := F_MD_number_62.2.2.2.1
theorem d_MD_number_70 : decode prog_12_method_13_code 70 = .ok (.iconst 2, 1) := F_MD_number_62.2.2.2.2.1
theorem d_MD_number_71 : decode prog_12_method_13_code 71 = .ok (.iload_n 2, 1) := F_MD_number_62.2.2.2.2.2.1
theorem d_MD_number_72 : decode prog_12_method_13_code 72 = .ok (.invokevirtual 130, 3) := F_MD_number_62.2.2.2.2.2.2.1
theorem d_MD_number_75 : decode prog_12_method_13_code 75 = .ok (.aload_n 0, 1) := F_MD_number_62.2.2.2.2.2.2.2.1
theorem d_MD_number_76 : decode prog_12_method_13_code 76 = .ok (.getfield 124, 3) := F_MD_number_62.2.2.2.2.2.2.2.2.1
theorem d_MD_number_79 : decode prog_12_method_13_code 79 = .ok (.ifCond .ne (10), 3) := F_MD_number_62.2.2.2.2.2.2.2.2.2.1
theorem d_MD_number_82 : decode prog_12_method_13_code 82 = .ok (.aload_n 0, 1) := F_MD_number_62.2.2.2.2.2.2.2.2.2.2.1
theorem d_MD_number_83 : decode prog_12_method_13_code 83 = .ok (.getfield 106, 3) := F_MD_number_62.2.2.2.2.2.2.2.2.2.2.2.1
theorem d_MD_number_86 : decode prog_12_method_13_code 86 = .ok (.goto (4), 3) := F_MD_number_62.2.2.2.2.2.2.2.2.2.2.2.2.1
theorem d_MD_number_89 : decode prog_12_method_13_code 89 = .ok (.iconst 0, 1) := F_MD_number_62.2.2.2.2.2.2.2.2.2.2.2.2.2.1
theorem d_MD_number_90 : decode prog_12_method_13_code 90 = .ok (.istore 4, 2) := F_MD_number_62.2.2.2.2.2.2.2.2.2.2.2.2.2.2.1
theorem d_MD_number_92 : decode prog_12_method_13_code 92 = .ok (.aload_n 0, 1) := F_MD_number_62.2.2.2.2.2.2.2.2.2.2.2.2.2.2.2.1
theorem d_MD_number_93 : decode prog_12_method_13_code 93 = .ok (.invokevirtual 137, 3) := F_MD_number_62.2.2.2.2.2.2.2.2.2.2.2.2.2.2.2.2.1
theorem d_MD_number_96 : decode prog_12_method_13_code 96 = .ok (.iload_n 3, 1) := F_MD_number_62.2.2.2.2.2.2.2.2.2.2.2.2.2.2.2.2.2.1
theorem d_MD_number_97 : decode prog_12_method_13_code 97 = .ok (.ifCond .eq (9), 3) := F_MD_number_62.2.2.2.2.2.2.2.2.2.2.2.2.2.2.2.2.2.2.1
theorem d_MD_number_100 : decode prog_12_method_13_code 100 = .ok (.iload 4, 2) := F_MD_number_62.2.2.2.2.2.2.2.2.2.2.2.2.2.2.2.2.2.2.2.1
theorem d_MD_number_102 : decode prog_12_method_13_code 102 = .ok (.ineg, 1) := F_MD_number_62.2.2.2.2.2.2.2.2.2.2.2.2.2.2.2.2.2.2.2.2.1
theorem d_MD_number_103 : decode prog_12_method_13_code 103 = .ok (.goto (5), 3) := F_MD_number_62.2.2.2.2.2.2.2.2.2.2.2.2.2.2.2.2.2.2.2.2.2.1
theorem d_MD_number_106 : decode prog_12_method_13_code 106 = .ok (.iload 4, 2) := F_MD_number_62.2.2.2.2.2.2.2.2.2.2.2.2.2.2.2.2.2.2.2.2.2.2.1
theorem d_MD_number_108 : decode prog_12_method_13_code 108 = .ok (.ireturn, 1) := F_MD_number_62.2.2.2.2.2.2.2.2.2.2.2.2.2.2.2.2.2.2.2.2.2.2.2.1
theorem F_MD_isEnd_0 : Jvm.Free.DS.Facts prog_12_method_16_code 0 [(.aload_n 0, 1), (.getfield 124, 3), (.ifCond .ne (16), 3), (.aload_n 0, 1), (.getfield 93, 3), (.iconst 2, 1), (.if_icmp .eq (8), 3), (.aload_n 0, 1), (.iconst 1, 1), (.invokevirtual 140, 3), (.aload_n 0, 1), (.getfield 124, 3), (.ifCond .ne (7), 3), (.iconst 1, 1), (.goto (4), 3), (.iconst 0, 1), (.ireturn, 1)] := Jvm.Free.DS.facts 0 _ (by decide +kernel) (by decide +kernel)
theorem d_MD_isEnd_0 : decode prog_12_method_16_code 0 = .ok (.aload_n 0, 1) := F_MD_isEnd_0.1
theorem d_MD_isEnd_1 : decode prog_12_method_16_code 1 = .ok (.getfield 124, 3) := F_MD_isEnd_0.2.1
theorem d_MD_isEnd_4 : decode prog_12_method_16_code 4 = .ok (.ifCond .ne (16), 3) := F_MD_isEnd_0.2.2.1
theorem d_MD_isEnd_7 : decode prog_12_method_16_code 7 = .ok (.aload_n 0, 1) := F_MD_isEnd_0.2.2.2.1
theorem d_MD_isEnd_8 : decode prog_12_method_16_code 8 = .ok (.getfield 93, 3) := F_MD_isEnd_0.2.2.2.2.1
theorem d_MD_isEnd_11 : decode prog_12_method_16_code 11 = .ok (.iconst 2, 1) := F_MD_isEnd_0.2.2.2.2.2.1
theorem d_MD_isEnd_12 : decode prog_12_method_16_code 12 = .ok (.if_icmp .eq (8), 3) := F_MD_isEnd_0.2.2.2.2.2.2.1
theorem d_MD_isEnd_15 : decode prog_12_method_16_code 15 = .ok (.aload_n 0, 1) := F_MD_isEnd_0.2.2.2.2.2.2.2.1
theorem d_MD_isEnd_16 : decode prog_12_method_16_code 16 = .ok (.iconst 1, 1) := F_MD_isEnd_0.2.2.2.2.2.2.2.2.1
theorem d_MD_isEnd_17 : decode prog_12_method_16_code 17 = .ok (.invokevirtual 140, 3) := F_MD_isEnd_0.2.2.2.2.2.2.2.2.2.1
theorem d_MD_isEnd_20 : decode prog_12_method_16_code 20 = .ok (.aload_n 0, 1) := F_MD_isEnd_0.2.2.2.2.2.2.2.2.2.2.1
theorem d_MD_isEnd_21 : decode prog_12_method_16_code 21 = .ok (.getfield 124, 3) := F_MD_isEnd_0.2.2.2.2.2.2.2.2.2.2.2.1
theorem d_MD_isEnd_24 : decode prog_12_method_16_code 24 = .ok (.ifCond .ne (7), 3) := F_MD_isEnd_0.2.2.2.2.2.2.2.2.2.2.2.2.1
theorem d_MD_isEnd_27 : decode prog_12_method_16_code 27 = .ok (.iconst 1, 1) := F_MD_isEnd_0.2.2.2.2.2.2.2.2.2.2.2.2.2.1
theorem d_MD_isEnd_28 : decode prog_12_method_16_code 28 = .ok (.goto (4), 3) := F_MD_isEnd_0.2.2.2.2.2.2.2.2.2.2.2.2.2.2.1
theorem d_MD_isEnd_31 : decode prog_12_method_16_code 31 = .ok (.iconst 0, 1) := F_MD_isEnd_0.2.2.2.2.2.2.2.2.2.2.2.2.2.2.2.1
theorem d_MD_isEnd_32 : decode prog_12_method_16_code 32 = .ok (.ireturn, 1) := F_MD_isEnd_0.2.2.2.2.2.2.2.2.2.2.2.2.2.2.2.2.1
theorem F_MD_areaOf_0 : Jvm.Free.DS.Facts prog_12_method_34_code 0 [(.bipush (8), 2), (.iload_n 1, 1), (.imul, 1), (.istore 5, 2), (.aload_n 0, 1), (.iload 5, 2), (.iconst 2, 1), (.iload_n 3, 1), (.imul, 1), (.iadd, 1), (.iaload, 1), (.aload_n 0, 1), (.iload 5, 2), (.iconst 2, 1), (.iload_n 2, 1), (.imul, 1), (.iadd, 1), (.iaload, 1), (.isub, 1), (.istore 6, 2), (.aload_n 0, 1), (.iload 5, 2), (.iconst 2, 1), (.iload_n 3, 1), (.imul, 1), (.iadd, 1), (.iconst 1, 1), (.iadd, 1), (.iaload, 1), (.aload_n 0, 1), (.iload 5, 2), (.iconst 2, 1)] := Jvm.Free.DS.facts 0 _ (by decide +kernel) (by decide +kernel)
theorem d_MD_areaOf_0 : decode prog_12_method_34_code 0 = .ok (.bipush (8), 2) := F_MD_areaOf_0.1
theorem d_MD_areaOf_2 : decode prog_12_method_34_code 2 = .ok (.iload_n 1, 1) := F_MD_areaOf_0.2.1
theorem d_MD_areaOf_3 : decode prog_12_method_34_code 3 = .ok (.imul, 1) := F_MD_areaOf_0.2.2.1
theorem d_MD_areaOf_4 : decode prog_12_method_34_code 4 = .ok (.istore 5, 2) := F_MD_areaOf_0.2.2.2.1
theorem d_MD_areaOf_6 : decode prog_12_method_34_code 6 = .ok (.aload_n 0, 1) := F_MD_areaOf_0.2.2.2.2.1
theorem d_MD_areaOf_7 : decode prog_12_method_34_code 7 = .ok (.iload 5, 2) := F_MD_areaOf_0.2.2.2.2.2.1
theorem d_MD_areaOf_9 : decode prog_12_method_34_code 9 = .ok (.iconst 2, 1) := F_MD_areaOf_0.2.2.2.2.2.2.1
theorem d_MD_areaOf_10 : decode prog_12_method_34_code 10 = .ok (.iload_n 3, 1) := F_MD_areaOf_0.2.2.2.2.2.2.2.1
theorem d_MD_areaOf_11 : decode prog_12_method_34_code 11 = .ok (.imul, 1) := F_MD_areaOf_0.2.2.2.2.2.2.2.2.1
theorem d_MD_areaOf_12 : decode prog_12_method_34_code 12 = .ok (.iadd, 1) := F_MD_areaOf_0.2.2.2.2.2.2.2.2.2.1
theorem d_MD_areaOf_13 : decode prog_12_method_34_code 13 = .ok (.iaload, 1) := F_MD_areaOf_0.2.2.2.2.2.2.2.2.2.2.1
theorem d_MD_areaOf_14 : decode prog_12_method_34_code 14 = .ok (.aload_n 0, 1) := F_MD_areaOf_0.2.2.2.2.2.2.2.2.2.2.2.1
theorem d_MD_areaOf_15 : decode prog_12_method_34_code 15 = .ok (.iload 5, 2) := F_MD_areaOf_0.2.2.2.2.2.2.2.2.2.2.2.2.1
theorem d_MD_areaOf_17 : decode prog_12_method_34_code 17 = .ok (.iconst 2, 1) := F_MD_areaOf_0.2.2.2.2.2.2.2.2.2.2.2.2.2.1
theorem d_MD_areaOf_18 : decode prog_12_method_34_code 18 = .ok (.iload_n 2, 1) := F_MD_areaOf_0.2.2.2.2.2.2.2.2.2.2.2.2.2.2.1
theorem d_MD_areaOf_19 : decode prog_12_method_34_code 19 = .ok (.imul, 1) := F_MD_areaOf_0.2.2.2.2.2.2.2.2.2.2.2.2.2.2.2.1
theorem d_MD_areaOf_20 : decode prog_12_method_34_code 20 = .ok (.iadd, 1) := F_MD_areaOf_0.2.2.2.2.2.2.2.2.2.2.2.2.2.2.2.2.1
theorem d_MD_areaOf_21 : decode prog_12_method_34_code 21 = .ok (.iaload, 1) := F_MD_areaOf_0.2.2.2.2.2.2.2.2.2.2.2.2.2.2.2.2.2.1
theorem d_MD_areaOf_22 : decode prog_12_method_34_code 22 = .ok (.isub, 1) := F_MD_areaOf_0.2.2.2.2.2.2.2.2.2.2.2.2.2.2.2.2.2.2.1
theorem d_MD_areaOf_23 : decode prog_12_method_34_code 23 = .ok (.istore 6, 2) := F_MD_areaOf_0.2.2.2.2.2.2.2.2.2.2.2.2.2.2.2.2.2.2.2.1
theorem d_MD_areaOf_25 : decode prog_12_method_34_code 25 = .ok (.aload_n 0, 1) := F_MD_areaOf_0.2.2.2.2.2.2.2.2.2.2.2.2.2.2.2.2.2.2.2.2.1
theorem d_MD_areaOf_26 : decode prog_12_method_34_code 26 = .ok (.iload 5, 2) := F_MD_areaOf_0.2.2.2.2.2.2.2.2.2.2.2.2.2.2.2.2.2.2.2.2.2.1
theorem d_MD_areaOf_28 : decode prog_12_method_34_code 28 = .ok (.iconst 2, 1) := F_MD_areaOf_0.2.2.2.2.2.2.2.2.2.2.2.2.2.2.2.2.2.2.2.2.2.2.1
theorem d_MD_areaOf_29 : decode prog_12_method_34_code 29 = .ok (.iload_n 3, 1) := F_MD_areaOf_0.2.2.2.2.2.2.2.2.2.2.2.2.2.2.2.2.2.2.2.2.2.2.2.1
theorem d_MD_areaOf_30 : decode prog_12_method_34_code 30 = .ok (.imul, 1) := F_MD_areaOf_0.2.2.2.2.2.2.2.2.2.2.2.2.2.2.2.2.2.2.2.2.2.2.2.2.1
theorem d_MD_areaOf_31 : decode prog_12_method_34_code 31 = .ok (.iadd, 1) := F_MD_areaOf_0.2.2.2.2.2.2.2.2.2.2.2.2.2.2.2.2.2.2.2.2.2.2.2.2.2.1
theorem d_MD_areaOf_32 : decode prog_12_method_34_code 32 = .ok (.iconst 1, 1) := F_MD_areaOf_0.2.2.2.2.2.2.2.2.2.2.2.2.2.2.2.2.2.2.2.2.2.2.2.2.2.2.1
theorem d_MD_areaOf_33 : decode prog_12_method_34_code 33 = .ok (.iadd, 1) := F_MD_areaOf_0.2.2.2.2.2.2.2.2.2.2.2.2.2.2.2.2.2.2.2.2.2.2.2.2.2.2.2.1
theorem d_MD_areaOf_34 : decode prog_12_method_34_code 34 = .ok (.iaload, 1) := F_MD_areaOf_0.2.2.2.2.2.2.2.2.2.2.2.2.2.2.2.2.2.2.2.2.2.2.2.2.2.2.2.2.1
theorem d_MD_areaOf_35 : decode prog_12_method_34_code 35 = .ok (.aload_n 0, 1) := F_MD_areaOf_0.2.2.2.2.2.2.2.2.2.2.2.2.2.2.2.2.2.2.2.2.2.2.2.2.2.2.2.2.2.1
theorem d_MD_areaOf_36 : decode prog_12_method_34_code 36 = .ok (.iload 5, 2) := F_MD_areaOf_0.2.2.2.2.2.2.2.2.2.2.2.2.2.2.2.2.2.2.2.2.2.2.2.2.2.2.2.2.2.2.1
theorem d_MD_areaOf_38 : decode prog_12_method_34_code 38 = .ok (.iconst 2, 1) := F_MD_areaOf_0.2.2.2.2.2.2.2.2.2.2.2.2.2.2.2.2.2.2.2.2.2.2.2.2.2.2.2.2.2.2.2.1
theorem F_MD_areaOf_39 : Jvm.Free.DS.Facts prog_12_method_34_code 39 [(.iload_n 2, 1), (.imul, 1), (.iadd, 1), (.iconst 1, 1), (.iadd, 1), (.iaload, 1), (.isub, 1), (.istore 7, 2), (.aload_n 0, 1), (.iload 5, 2), (.iconst 2, 1), (.iload 4, 2), (.imul, 1), (.iadd, 1), (.iaload, 1), (.aload_n 0, 1), (.iload 5, 2), (.iconst 2, 1), (.iload_n 2, 1), (.imul, 1), (.iadd, 1), (.iaload, 1), (.isub, 1), (.istore 8, 2), (.aload_n 0, 1), (.iload 5, 2), (.iconst 2, 1), (.iload 4, 2), (.imul, 1), (.iadd, 1), (.iconst 1, 1), (.iadd, 1)] := Jvm.Free.DS.facts 39 _ (by decide +kernel) (by decide +kernel)
theorem d_MD_areaOf_39 : decode prog_12_method_34_code 39 = .ok (.iload_n 2, 1) := F_MD_areaOf_39.1
theorem d_MD_areaOf_40 : decode prog_12_method_34_code 40 = .ok (.imul, 1) := F_MD_areaOf_39.2.1
theorem d_MD_areaOf_41 : decode prog_12_method_34_code 41 = .ok (.iadd, 1) := F_MD_areaOf_39.2.2.1
theorem d_MD_areaOf_42 : decode prog_12_method_34_code 42 = .ok (.iconst 1, 1) := F_MD_areaOf_39.2.2.2.1
theorem d_MD_areaOf_43 : decode prog_12_method_34_code 43 = .ok (.iadd, 1) := F_MD_areaOf_39.2.2.2.2.1
theorem d_MD_areaOf_44 : decode prog_12_method_34_code 44 = .ok (.iaload, 1) := F_MD_areaOf_39.2.2.2.2.2.1
theorem d_MD_areaOf_45 : decode prog_12_method_34_code 45 = .ok (.isub, 1) := F_MD_areaOf_39.2.2.2.2.2.2.1
theorem d_MD_areaOf_46 : decode prog_12_method_34_code 46 = .ok (.istore 7, 2) := F_MD_areaOf_39.2.2.2.2.2.2.2.1
theorem d_MD_areaOf_48 : decode prog_12_method_34_code 48 = .ok (.aload_n 0, 1) := F_MD_areaOf_39.2.2.2.2.2.2.2.2.1
theorem d_MD_areaOf_49 : decode prog_12_method_34_code 49 = .ok (.iload 5, 2) := F_MD_areaOf_39.2.2.2.2.2.2.2.2.2.1
theorem d_MD_areaOf_51 : decode prog_12_method_34_code 51 = .ok (.iconst 2, 1) := F_MD_areaOf_39.2.2.2.2.2.2.2.2.2.2.1
theorem d_MD_areaOf_52 : decode prog_12_method_34_code 52 = .ok (.iload 4, 2) := F_MD_areaOf_39.2.2.2.2.2.2.2.2.2.2.2.1
theorem d_MD_areaOf_54 : decode prog_12_method_34_code 54 = .ok (.imul, 1) := F_MD_areaOf_39.2.2.2.2.2.2.2.2.2.2.2.2.1
theorem d_MD_areaOf_55 : decode prog_12_method_34_code 55 = .ok (.iadd, 1) := F_MD_areaOf_39.2.2.2.2.2.2.2.2.2.2.2.2.2.1
theorem d_MD_areaOf_56 : decode prog_12_method_34_code 56 = .ok (.iaload, 1) := F_MD_areaOf_39.2.2.2.2.2.2.2.2.2.2.2.2.2.2.1
theorem d_MD_areaOf_57 : decode prog_12_method_34_code 57 = .ok (.aload_n 0, 1) := F_MD_areaOf_39.2.2.2.2.2.2.2.2.2.2.2.2.2.2.2.1
theorem d_MD_areaOf_58 : decode prog_12_method_34_code 58 = .ok (.iload 5, 2) := F_MD_areaOf_39.2.2.2.2.2.2.2.2.2.2.2.2.2.2.2.2.1
theorem d_MD_areaOf_60 : decode prog_12_method_34_code 60 = .ok (.iconst 2, 1) := F_MD_areaOf_39.2.2.2.2.2.2.2.2.2.2.2.2.2.2.2.2.2.1
theorem d_MD_areaOf_61 : decode prog_12_method_34_code 61 = .ok (.iload_n 2, 1) := F_MD_areaOf_39.2.2.2.2.2.2.2.2.2.2.2.2.2.2.2.2.2.2.1
theorem d_MD_areaOf_62 : decode prog_12_method_34_code 62 = .ok (.imul, 1) := F_MD_areaOf_39.2.2.2.2.2.2.2.2.2.2.2.2.2.2.2.2.2.2.2.1
theorem d_MD_areaOf_63 : decode prog_12_method_34_code 63 = .ok (.iadd, 1) := F_MD_areaOf_39.2.2.2.2.2.2.2.2.2.2.2.2.2.2.2.2.2.2.2.2.1
theorem d_MD_areaOf_64 : decode prog_12_method_34_code 64 = .ok (.iaload, 1) := F_MD_areaOf_39.2.2.2.2.2.2.2.2.2.2.2.2.2.2.2.2.2.2.2.2.2.1
theorem d_MD_areaOf_65 : decode prog_12_method_34_code 65 = .ok (.isub, 1) := F_MD_areaOf_39.2.2.2.2.2.2.2.2.2.2.2.2.2.2.2.2.2.2.2.2.2.2.1
theorem d_MD_areaOf_66 : decode prog_12_method_34_code 66 = .ok (.istore 8, 2) := F_MD_areaOf_39.2.2.2.2.2.2.2.2.2.2.2.2.2.2.2.2.2.2.2.2.2.2.2.1
theorem d_MD_areaOf_68 : decode prog_12_method_34_code 68 = .ok (.aload_n 0, 1) := F_MD_areaOf_39.2.2.2.2.2.2.2.2.2.2.2.2.2.2.2.2.2.2.2.2.2.2.2.2.1
theorem d_MD_areaOf_69 : decode prog_12_method_34_code 69 = .ok (.iload 5, 2) := F_MD_areaOf_39.2.2.2.2.2.2.2.2.2.2.2.2.2.2.2.2.2.2.2.2.2.2.2.2.2.1
theorem d_MD_areaOf_71 : decode prog_12_method_34_code 71 = .ok (.iconst 2, 1) := F_MD_areaOf_39.2.2.2.2.2.2.2.2.2.2.2.2.2.2.2.2.2.2.2.2.2.2.2.2.2.2.1
theorem d_MD_areaOf_72 : decode prog_12_method_34_code 72 = .ok (.iload 4, 2) := F_MD_areaOf_39.2.2.2.2.2.2.2.2.2.2.2.2.2.2.2.2.2.2.2.2.2.2.2.2.2.2.2.1
theorem d_MD_areaOf_74 : decode prog_12_method_34_code 74 = .ok (.imul, 1) := F_MD_areaOf_39.2.2.2.2.2.2.2.2.2.2.2.2.2.2.2.2.2.2.2.2.2.2.2.2.2.2.2.2.1
theorem d_MD_areaOf_75 : decode prog_12_method_34_code 75 = .ok (.iadd, 1) := F_MD_areaOf_39.2.2.2.2.2.2.2.2.2.2.2.2.2.2.2.2.2.2.2.2.2.2.2.2.2.2.2.2.2.1
theorem d_MD_areaOf_76 : decode prog_12_method_34_code 76 = .ok (.iconst 1, 1) := F_MD_areaOf_39.2.2.2.2.2.2.2.2.2.2.2.2.2.2.2.2.2.2.2.2.2.2.2.2.2.2.2.2.2.2.1
theorem d_MD_areaOf_77 : decode prog_12_method_34_code 77 = .ok (.iadd, 1) := F_MD_areaOf_39.2.2.2.2.2.2.2.2.2.2.2.2.2.2.2.2.2.2.2.2.2.2.2.2.2.2.2.2.2.2.2.1
theorem F_MD_areaOf_78 : Jvm.Free.DS.Facts prog_12_method_34_code 78 [(.iaload, 1), (.aload_n 0, 1), (.iload 5, 2), (.iconst 2, 1), (.iload_n 2, 1), (.imul, 1), (.iadd, 1), (.iconst 1, 1), (.iadd, 1), (.iaload, 1), (.isub, 1), (.istore 9, 2), (.iload 6, 2), (.iload 9, 2), (.imul, 1), (.iload 7, 2), (.iload 8, 2), (.imul, 1), (.isub, 1), (.ireturn, 1)] := Jvm.Free.DS.facts 78 _ (by decide +kernel) (by decide +kernel)
theorem d_MD_areaOf_78 : decode prog_12_method_34_code 78 = .ok (.iaload, 1) := F_MD_areaOf_78.1
theorem d_MD_areaOf_79 : decode prog_12_method_34_code 79 = .ok (.aload_n 0, 1) := F_MD_areaOf_78.2.1
theorem d_MD_areaOf_80 : decode prog_12_method_34_code 80 = .ok (.iload 5, 2) := F_MD_areaOf_78.2.2.1
theorem d_MD_areaOf_82 : decode prog_12_method_34_code 82 = .ok (.iconst 2, 1) := F_MD_areaOf_78.2.2.2.1
theorem d_MD_areaOf_83 : decode prog_12_method_34_code 83 = .ok (.iload_n 2, 1) := F_MD_areaOf_78.2.2.2.2.1
theorem d_MD_areaOf_84 : decode prog_12_method_34_code 84 = .ok (.imul, 1) := F_MD_areaOf_78.2.2.2.2.2.1
theorem d_MD_areaOf_85 : decode prog_12_method_34_code 85 = .ok (.iadd, 1) := F_MD_areaOf_78.2.2.2.2.2.2.1
theorem d_MD_areaOf_86 : decode prog_12_method_34_code 86 = .ok (.iconst 1, 1) := F_MD_areaOf_78.2.2.2.2.2.2.2.1
theorem d_MD_areaOf_87 : decode prog_12_method_34_code 87 = .ok (.iadd, 1) := F_MD_areaOf_78.2.2.2.2.2.2.2.2.1
theorem d_MD_areaOf_88 : decode prog_12_method_34_code 88 = .ok (.iaload, 1) := F_MD_areaOf_78.2.2.2.2.2.2.2.2.2.1
theorem d_MD_areaOf_89 : decode prog_12_method_34_code 89 = .ok (.isub, 1) := F_MD_areaOf_78.2.2.2.2.2.2.2.2.2.2.1
theorem d_MD_areaOf_90 : decode prog_12_method_34_code 90 = .ok (.istore 9, 2) := F_MD_areaOf_78.2.2.2.2.2.2.2.2.2.2.2.1
theorem d_MD_areaOf_92 : decode prog_12_method_34_code 92 = .ok (.iload 6, 2) := F_MD_areaOf_78.2.2.2.2.2.2.2.2.2.2.2.2.1
theorem d_MD_areaOf_94 : decode prog_12_method_34_code 94 = .ok (.iload 9, 2) := F_MD_areaOf_78.2.2.2.2.2.2.2.2.2.2.2.2.2.1
theorem d_MD_areaOf_96 : decode prog_12_method_34_code 96 = .ok (.imul, 1) := F_MD_areaOf_78.2.2.2.2.2.2.2.2.2.2.2.2.2.2.1
theorem d_MD_areaOf_97 : decode prog_12_method_34_code 97 = .ok (.iload 7, 2) := F_MD_areaOf_78.2.2.2.2.2.2.2.2.2.2.2.2.2.2.2.1
theorem d_MD_areaOf_99 : decode prog_12_method_34_code 99 = .ok (.iload 8, 2) := F_MD_areaOf_78.2.2.2.2.2.2.2.2.2.2.2.2.2.2.2.2.1
theorem d_MD_areaOf_101 : decode prog_12_method_34_code 101 = .ok (.imul, 1) := F_MD_areaOf_78.2.2.2.2.2.2.2.2.2.2.2.2.2.2.2.2.2.1
theorem d_MD_areaOf_102 : decode prog_12_method_34_code 102 = .ok (.isub, 1) := F_MD_areaOf_78.2.2.2.2.2.2.2.2.2.2.2.2.2.2.2.2.2.2.1
theorem d_MD_areaOf_103 : decode prog_12_method_34_code 103 = .ok (.ireturn, 1) := F_MD_areaOf_78.2.2.2.2.2.2.2.2.2.2.2.2.2.2.2.2.2.2.2.1
theorem F_MD_readMap_0 : Jvm.Free.DS.Facts prog_12_method_18_code 0 [(.aload_n 0, 1), (.getfield 25, 3), (.sipush (168), 3), (.laload, 1), (.l2i, 1), (.istore_n 1, 1), (.iload_n 1, 1), (.bipush (8), 2), (.if_icmp .ne (8), 3), (.aload_n 0, 1), (.iconst 2, 1), (.invokevirtual 140, 3), (.aload_n 0, 1), (.invokevirtual 137, 3), (.aload_n 0, 1), (.getfield 124, 3), (.ifCond .ne (15), 3), (.aload_n 0, 1), (.invokevirtual 147, 3), (.ifCond .ne (8), 3), (.aload_n 0, 1), (.iconst 1, 1), (.invokevirtual 140, 3), (.iconst 0, 1), (.istore_n 2, 1), (.aload_n 0, 1), (.getfield 124, 3), (.ifCond .ne (32), 3), (.iload_n 2, 1), (.iload_n 1, 1), (.if_icmp .ge (27), 3), (.aload_n 0, 1)] := Jvm.Free.DS.facts 0 _ (by decide +kernel) (by decide +kernel)
theorem d_MD_readMap_0 : decode prog_12_method_18_code 0 = .ok (.aload_n 0, 1) := F_MD_readMap_0.1
theorem d_MD_readMap_1 : decode prog_12_method_18_code 1 = .ok (.getfield 25, 3) := F_MD_readMap_0.2.1
theorem d_MD_readMap_4 : decode prog_12_method_18_code 4 = .ok (.sipush (168), 3) := F_MD_readMap_0.2.2.1
theorem d_MD_readMap_7 : decode prog_12_method_18_code 7 = .ok (.laload, 1) := F_MD_readMap_0.2.2.2.1
theorem d_MD_readMap_8 : decode prog_12_method_18_code 8 = .ok (.l2i, 1) := F_MD_readMap_0.2.2.2.2.1
theorem d_MD_readMap_9 : decode prog_12_method_18_code 9 = .ok (.istore_n 1, 1) := F_MD_readMap_0.2.2.2.2.2.1
theorem d_MD_readMap_10 : decode prog_12_method_18_code 10 = .ok (.iload_n 1, 1) := F_MD_readMap_0.2.2.2.2.2.2.1
theorem d_MD_readMap_11 : decode prog_12_method_18_code 11 = .ok (.bipush (8), 2) := F_MD_readMap_0.2.2.2.2.2.2.2.1
theorem d_MD_readMap_13 : decode prog_12_method_18_code 13 = .ok (.if_icmp .ne (8), 3) := F_MD_readMap_0.2.2.2.2.2.2.2.2.1
theorem d_MD_readMap_16 : decode prog_12_method_18_code 16 = .ok (.aload_n 0, 1) := F_MD_readMap_0.2.2.2.2.2.2.2.2.2.1
theorem d_MD_readMap_17 : decode prog_12_method_18_code 17 = .ok (.iconst 2, 1) := F_MD_readMap_0.2.2.2.2.2.2.2.2.2.2.1
theorem d_MD_readMap_18 : decode prog_12_method_18_code 18 = .ok (.invokevirtual 140, 3) := F_MD_readMap_0.2.2.2.2.2.2.2.2.2.2.2.1
theorem d_MD_readMap_21 : decode prog_12_method_18_code 21 = .ok (.aload_n 0, 1) := F_MD_readMap_0.2.2.2.2.2.2.2.2.2.2.2.2.1
theorem d_MD_readMap_22 : decode prog_12_method_18_code 22 = .ok (.invokevirtual 137, 3) := F_MD_readMap_0.2.2.2.2.2.2.2.2.2.2.2.2.2.1
theorem d_MD_readMap_25 : decode prog_12_method_18_code 25 = .ok (.aload_n 0, 1) := F_MD_readMap_0.2.2.2.2.2.2.2.2.2.2.2.2.2.2.1
theorem d_MD_readMap_26 : decode prog_12_method_18_code 26 = .ok (.getfield 124, 3) := F_MD_readMap_0.2.2.2.2.2.2.2.2.2.2.2.2.2.2.2.1
theorem d_MD_readMap_29 : decode prog_12_method_18_code 29 = .ok (.ifCond .ne (15), 3) := F_MD_readMap_0.2.2.2.2.2.2.2.2.2.2.2.2.2.2.2.2.1
theorem d_MD_readMap_32 : decode prog_12_method_18_code 32 = .ok (.aload_n 0, 1) := F_MD_readMap_0.2.2.2.2.2.2.2.2.2.2.2.2.2.2.2.2.2.1
theorem d_MD_readMap_33 : decode prog_12_method_18_code 33 = .ok (.invokevirtual 147, 3) := F_MD_readMap_0.2.2.2.2.2.2.2.2.2.2.2.2.2.2.2.2.2.2.1
theorem d_MD_readMap_36 : decode prog_12_method_18_code 36 = .ok (.ifCond .ne (8), 3) := F_MD_readMap_0.2.2.2.2.2.2.2.2.2.2.2.2.2.2.2.2.2.2.2.1
theorem d_MD_readMap_39 : decode prog_12_method_18_code 39 = .ok (.aload_n 0, 1) := F_MD_readMap_0.2.2.2.2.2.2.2.2.2.2.2.2.2.2.2.2.2.2.2.2.1
theorem d_MD_readMap_40 : decode prog_12_method_18_code 40 = .ok (.iconst 1, 1) := F_MD_readMap_0.2.2.2.2.2.2.2.2.2.2.2.2.2.2.2.2.2.2.2.2.2.1
theorem d_MD_readMap_41 : decode prog_12_method_18_code 41 = .ok (.invokevirtual 140, 3) := F_MD_readMap_0.2.2.2.2.2.2.2.2.2.2.2.2.2.2.2.2.2.2.2.2.2.2.1
theorem d_MD_readMap_44 : decode prog_12_method_18_code 44 = .ok (.iconst 0, 1) := F_MD_readMap_0.2.2.2.2.2.2.2.2.2.2.2.2.2.2.2.2.2.2.2.2.2.2.2.1
theorem d_MD_readMap_45 : decode prog_12_method_18_code 45 = .ok (.istore_n 2, 1) := F_MD_readMap_0.2.2.2.2.2.2.2.2.2.2.2.2.2.2.2.2.2.2.2.2.2.2.2.2.1
theorem d_MD_readMap_46 : decode prog_12_method_18_code 46 = .ok (.aload_n 0, 1) := F_MD_readMap_0.2.2.2.2.2.2.2.2.2.2.2.2.2.2.2.2.2.2.2.2.2.2.2.2.2.1
theorem d_MD_readMap_47 : decode prog_12_method_18_code 47 = .ok (.getfield 124, 3) := F_MD_readMap_0.2.2.2.2.2.2.2.2.2.2.2.2.2.2.2.2.2.2.2.2.2.2.2.2.2.2.1
theorem d_MD_readMap_50 : decode prog_12_method_18_code 50 = .ok (.ifCond .ne (32), 3) := F_MD_readMap_0.2.2.2.2.2.2.2.2.2.2.2.2.2.2.2.2.2.2.2.2.2.2.2.2.2.2.2.1
theorem d_MD_readMap_53 : decode prog_12_method_18_code 53 = .ok (.iload_n 2, 1) := F_MD_readMap_0.2.2.2.2.2.2.2.2.2.2.2.2.2.2.2.2.2.2.2.2.2.2.2.2.2.2.2.2.1
theorem d_MD_readMap_54 : decode prog_12_method_18_code 54 = .ok (.iload_n 1, 1) := F_MD_readMap_0.2.2.2.2.2.2.2.2.2.2.2.2.2.2.2.2.2.2.2.2.2.2.2.2.2.2.2.2.2.1
theorem d_MD_readMap_55 : decode prog_12_method_18_code 55 = .ok (.if_icmp .ge (27), 3) := F_MD_readMap_0.2.2.2.2.2.2.2.2.2.2.2.2.2.2.2.2.2.2.2.2.2.2.2.2.2.2.2.2.2.2.1
theorem d_MD_readMap_58 : decode prog_12_method_18_code 58 = .ok (.aload_n 0, 1) := F_MD_readMap_0.2.2.2.2.2.2.2.2.2.2.2.2.2.2.2.2.2.2.2.2.2.2.2.2.2.2.2.2.2.2.2.1
theorem F_MD_readMap_59 : Jvm.Free.DS.Facts prog_12_method_18_code 59 [(.getfield 34, 3), (.iload_n 2, 1), (.iaload, 1), (.aload_n 0, 1), (.getfield 100, 3), (.if_icmp .ne (8), 3), (.aload_n 0, 1), (.iconst 3, 1), (.invokevirtual 140, 3), (.iinc 2 (1), 3), (.goto (-33), 3), (.aload_n 0, 1), (.getfield 124, 3), (.ifCond .ne (13), 3), (.aload_n 0, 1), (.getfield 34, 3), (.iload_n 1, 1), (.aload_n 0, 1), (.getfield 100, 3), (.iastore, 1), (.aload_n 0, 1), (.invokevirtual 137, 3), (.aload_n 0, 1), (.invokevirtual 165, 3), (.istore_n 2, 1), (.aload_n 0, 1), (.invokevirtual 165, 3), (.istore_n 3, 1), (.aload_n 0, 1), (.invokevirtual 158, 3), (.ifCond .ne (4), 3), (.return_, 1)] := Jvm.Free.DS.facts 59 _ (by decide +kernel) (by decide +kernel)
theorem d_MD_readMap_59 : decode prog_12_method_18_code 59 = .ok (.getfield 34, 3) := F_MD_readMap_59.1
theorem d_MD_readMap_62 : decode prog_12_method_18_code 62 = .ok (.iload_n 2, 1) := F_MD_readMap_59.2.1
theorem d_MD_readMap_63 : decode prog_12_method_18_code 63 = .ok (.iaload, 1) := F_MD_readMap_59.2.2.1
theorem d_MD_readMap_64 : decode prog_12_method_18_code 64 = .ok (.aload_n 0, 1) := F_MD_readMap_59.2.2.2.1
theorem d_MD_readMap_65 : decode prog_12_method_18_code 65 = .ok (.getfield 100, 3) := F_MD_readMap_59.2.2.2.2.1
theorem d_MD_readMap_68 : decode prog_12_method_18_code 68 = .ok (.if_icmp .ne (8), 3) := F_MD_readMap_59.2.2.2.2.2.1
theorem d_MD_readMap_71 : decode prog_12_method_18_code 71 = .ok (.aload_n 0, 1) := F_MD_readMap_59.2.2.2.2.2.2.1
theorem d_MD_readMap_72 : decode prog_12_method_18_code 72 = .ok (.iconst 3, 1) := F_MD_readMap_59.2.2.2.2.2.2.2.1
theorem d_MD_readMap_73 : decode prog_12_method_18_code 73 = .ok (.invokevirtual 140, 3) := F_MD_readMap_59.2.2.2.2.2.2.2.2.1
theorem d_MD_readMap_76 : decode prog_12_method_18_code 76 = .ok (.iinc 2 (1), 3) := F_MD_readMap_59.2.2.2.2.2.2.2.2.2.1
theorem d_MD_readMap_79 : decode prog_12_method_18_code 79 = .ok (.goto (-33), 3) := F_MD_readMap_59.2.2.2.2.2.2.2.2.2.2.1
theorem d_MD_readMap_82 : decode prog_12_method_18_code 82 = .ok (.aload_n 0, 1) := F_MD_readMap_59.2.2.2.2.2.2.2.2.2.2.2.1
theorem d_MD_readMap_83 : decode prog_12_method_18_code 83 = .ok (.getfield 124, 3) := F_MD_readMap_59.2.2.2.2.2.2.2.2.2.2.2.2.1
theorem d_MD_readMap_86 : decode prog_12_method_18_code 86 = .ok (.ifCond .ne (13), 3) := F_MD_readMap_59.2.2.2.2.2.2.2.2.2.2.2.2.2.1
theorem d_MD_readMap_89 : decode prog_12_method_18_code 89 = .ok (.aload_n 0, 1) := F_MD_readMap_59.2.2.2.2.2.2.2.2.2.2.2.2.2.2.1
theorem d_MD_readMap_90 : decode prog_12_method_18_code 90 = .ok (.getfield 34, 3) := F_MD_readMap_59.2.2.2.2.2.2.2.2.2.2.2.2.2.2.2.1
theorem d_MD_readMap_93 : decode prog_12_method_18_code 93 = .ok (.iload_n 1, 1) := F_MD_readMap_59.2.2.2.2.2.2.2.2.2.2.2.2.2.2.2.2.1
theorem d_MD_readMap_94 : decode prog_12_method_18_code 94 = .ok (.aload_n 0, 1) := F_MD_readMap_59.2.2.2.2.2.2.2.2.2.2.2.2.2.2.2.2.2.1
theorem d_MD_readMap_95 : decode prog_12_method_18_code 95 = .ok (.getfield 100, 3) := F_MD_readMap_59.2.2.2.2.2.2.2.2.2.2.2.2.2.2.2.2.2.2.1
theorem d_MD_readMap_98 : decode prog_12_method_18_code 98 = .ok (.iastore, 1) := F_MD_readMap_59.2.2.2.2.2.2.2.2.2.2.2.2.2.2.2.2.2.2.2.1
theorem d_MD_readMap_99 : decode prog_12_method_18_code 99 = .ok (.aload_n 0, 1) := F_MD_readMap_59.2.2.2.2.2.2.2.2.2.2.2.2.2.2.2.2.2.2.2.2.1
theorem d_MD_readMap_100 : decode prog_12_method_18_code 100 = .ok (.invokevirtual 137, 3) := F_MD_readMap_59.2.2.2.2.2.2.2.2.2.2.2.2.2.2.2.2.2.2.2.2.2.1
theorem d_MD_readMap_103 : decode prog_12_method_18_code 103 = .ok (.aload_n 0, 1) := F_MD_readMap_59.2.2.2.2.2.2.2.2.2.2.2.2.2.2.2.2.2.2.2.2.2.2.1
theorem d_MD_readMap_104 : decode prog_12_method_18_code 104 = .ok (.invokevirtual 165, 3) := F_MD_readMap_59.2.2.2.2.2.2.2.2.2.2.2.2.2.2.2.2.2.2.2.2.2.2.2.1
theorem d_MD_readMap_107 : decode prog_12_method_18_code 107 = .ok (.istore_n 2, 1) := F_MD_readMap_59.2.2.2.2.2.2.2.2.2.2.2.2.2.2.2.2.2.2.2.2.2.2.2.2.1
theorem d_MD_readMap_108 : decode prog_12_method_18_code 108 = .ok (.aload_n 0, 1) := F_MD_readMap_59.2.2.2.2.2.2.2.2.2.2.2.2.2.2.2.2.2.2.2.2.2.2.2.2.2.1
theorem d_MD_readMap_109 : decode prog_12_method_18_code 109 = .ok (.invokevirtual 165, 3) := F_MD_readMap_59.2.2.2.2.2.2.2.2.2.2.2.2.2.2.2.2.2.2.2.2.2.2.2.2.2.2.1
theorem d_MD_readMap_112 : decode prog_12_method_18_code 112 = .ok (.istore_n 3, 1) := F_MD_readMap_59.2.2.2.2.2.2.2.2.2.2.2.2.2.2.2.2.2.2.2.2.2.2.2.2.2.2.2.1
theorem d_MD_readMap_113 : decode prog_12_method_18_code 113 = .ok (.aload_n 0, 1) := F_MD_readMap_59.2.2.2.2.2.2.2.2.2.2.2.2.2.2.2.2.2.2.2.2.2.2.2.2.2.2.2.2.1
theorem d_MD_readMap_114 : decode prog_12_method_18_code 114 = .ok (.invokevirtual 158, 3) := F_MD_readMap_59.2.2.2.2.2.2.2.2.2.2.2.2.2.2.2.2.2.2.2.2.2.2.2.2.2.2.2.2.2.1
theorem d_MD_readMap_117 : decode prog_12_method_18_code 117 = .ok (.ifCond .ne (4), 3) := F_MD_readMap_59.2.2.2.2.2.2.2.2.2.2.2.2.2.2.2.2.2.2.2.2.2.2.2.2.2.2.2.2.2.2.1
theorem d_MD_readMap_120 : decode prog_12_method_18_code 120 = .ok (.return_, 1) := F_MD_readMap_59.2.2.2.2.2.2.2.2.2.2.2.2.2.2.2.2.2.2.2.2.2.2.2.2.2.2.2.2.2.2.2.1
theorem F_MD_readMap_121 : Jvm.Free.DS.Facts prog_12_method_18_code 121 [(.aload_n 0, 1), (.aload_n 0, 1), (.getfield 18, 3), (.iload_n 2, 1), (.iload_n 3, 1), (.invokevirtual 168, 3), (.aload_n 0, 1), (.invokevirtual 172, 3), (.ifCond .eq (8), 3), (.aload_n 0, 1), (.iconst 4, 1), (.invokevirtual 140, 3), (.aload_n 0, 1), (.aload_n 0, 1), (.getfield 25, 3), (.iload_n 1, 1), (.invokevirtual 175, 3), (.aload_n 0, 1), (.getfield 25, 3), (.sipush (168), 3), (.dup2, 1), (.laload, 1), (.lconst 1, 1), (.ladd, 1), (.lastore, 1), (.return_, 1)] := Jvm.Free.DS.facts 121 _ (by decide +kernel) (by decide +kernel)
theorem d_MD_readMap_121 : decode prog_12_method_18_code 121 = .ok (.aload_n 0, 1) := F_MD_readMap_121.1
theorem d_MD_readMap_122 : decode prog_12_method_18_code 122 = .ok (.aload_n 0, 1) := F_MD_readMap_121.2.1
theorem d_MD_readMap_123 : decode prog_12_method_18_code 123 = .ok (.getfield 18, 3) := F_MD_readMap_121.2.2.1
theorem d_MD_readMap_126 : decode prog_12_method_18_code 126 = .ok (.iload_n 2, 1) := F_MD_readMap_121.2.2.2.1
theorem d_MD_readMap_127 : decode prog_12_method_18_code 127 = .ok (.iload_n 3, 1) := F_MD_readMap_121.2.2.2.2.1
theorem d_MD_readMap_128 : decode prog_12_method_18_code 128 = .ok (.invokevirtual 168, 3) := F_MD_readMap_121.2.2.2.2.2.1
theorem d_MD_readMap_131 : decode prog_12_method_18_code 131 = .ok (.aload_n 0, 1) := F_MD_readMap_121.2.2.2.2.2.2.1
theorem d_MD_readMap_132 : decode prog_12_method_18_code 132 = .ok (.invokevirtual 172, 3) := F_MD_readMap_121.2.2.2.2.2.2.2.1
theorem d_MD_readMap_135 : decode prog_12_method_18_code 135 = .ok (.ifCond .eq (8), 3) := F_MD_readMap_121.2.2.2.2.2.2.2.2.1
theorem d_MD_readMap_138 : decode prog_12_method_18_code 138 = .ok (.aload_n 0, 1) := F_MD_readMap_121.2.2.2.2.2.2.2.2.2.1
theorem d_MD_readMap_139 : decode prog_12_method_18_code 139 = .ok (.iconst 4, 1) := F_MD_readMap_121.2.2.2.2.2.2.2.2.2.2.1
theorem d_MD_readMap_140 : decode prog_12_method_18_code 140 = .ok (.invokevirtual 140, 3) := F_MD_readMap_121.2.2.2.2.2.2.2.2.2.2.2.1
theorem d_MD_readMap_143 : decode prog_12_method_18_code 143 = .ok (.aload_n 0, 1) := F_MD_readMap_121.2.2.2.2.2.2.2.2.2.2.2.2.1
theorem d_MD_readMap_144 : decode prog_12_method_18_code 144 = .ok (.aload_n 0, 1) := F_MD_readMap_121.2.2.2.2.2.2.2.2.2.2.2.2.2.1
theorem d_MD_readMap_145 : decode prog_12_method_18_code 145 = .ok (.getfield 25, 3) := F_MD_readMap_121.2.2.2.2.2.2.2.2.2.2.2.2.2.2.1
theorem d_MD_readMap_148 : decode prog_12_method_18_code 148 = .ok (.iload_n 1, 1) := F_MD_readMap_121.2.2.2.2.2.2.2.2.2.2.2.2.2.2.2.1
theorem d_MD_readMap_149 : decode prog_12_method_18_code 149 = .ok (.invokevirtual 175, 3) := F_MD_readMap_121.2.2.2.2.2.2.2.2.2.2.2.2.2.2.2.2.1
theorem d_MD_readMap_152 : decode prog_12_method_18_code 152 = .ok (.aload_n 0, 1) := F_MD_readMap_121.2.2.2.2.2.2.2.2.2.2.2.2.2.2.2.2.2.1
theorem d_MD_readMap_153 : decode prog_12_method_18_code 153 = .ok (.getfield 25, 3) := F_MD_readMap_121.2.2.2.2.2.2.2.2.2.2.2.2.2.2.2.2.2.2.1
theorem d_MD_readMap_156 : decode prog_12_method_18_code 156 = .ok (.sipush (168), 3) := F_MD_readMap_121.2.2.2.2.2.2.2.2.2.2.2.2.2.2.2.2.2.2.2.1
theorem d_MD_readMap_159 : decode prog_12_method_18_code 159 = .ok (.dup2, 1) := F_MD_readMap_121.2.2.2.2.2.2.2.2.2.2.2.2.2.2.2.2.2.2.2.2.1
theorem d_MD_readMap_160 : decode prog_12_method_18_code 160 = .ok (.laload, 1) := F_MD_readMap_121.2.2.2.2.2.2.2.2.2.2.2.2.2.2.2.2.2.2.2.2.2.1
theorem d_MD_readMap_161 : decode prog_12_method_18_code 161 = .ok (.lconst 1, 1) := F_MD_readMap_121.2.2.2.2.2.2.2.2.2.2.2.2.2.2.2.2.2.2.2.2.2.2.1
theorem d_MD_readMap_162 : decode prog_12_method_18_code 162 = .ok (.ladd, 1) := F_MD_readMap_121.2.2.2.2.2.2.2.2.2.2.2.2.2.2.2.2.2.2.2.2.2.2.2.1
theorem d_MD_readMap_163 : decode prog_12_method_18_code 163 = .ok (.lastore, 1) := F_MD_readMap_121.2.2.2.2.2.2.2.2.2.2.2.2.2.2.2.2.2.2.2.2.2.2.2.2.1
theorem d_MD_readMap_164 : decode prog_12_method_18_code 164 = .ok (.return_, 1) := F_MD_readMap_121.2.2.2.2.2.2.2.2.2.2.2.2.2.2.2.2.2.2.2.2.2.2.2.2.2.1
theorem F_MD_toldQuad_0 : Jvm.Free.DS.Facts prog_12_method_15_code 0 [(.aload_n 0, 1), (.getfield 124, 3), (.ifCond .ne (23), 3), (.aload_n 0, 1), (.invokevirtual 147, 3), (.ifCond .eq (11), 3), (.aload_n 0, 1), (.invokevirtual 151, 3), (.iconst (-1), 1), (.if_icmp .ne (8), 3), (.aload_n 0, 1), (.iconst 1, 1), (.invokevirtual 140, 3), (.aload_n 0, 1), (.getfield 124, 3), (.ifCond .ne (10), 3), (.aload_n 0, 1), (.invokevirtual 151, 3), (.goto (4), 3), (.iconst 0, 1), (.istore_n 1, 1), (.aload_n 0, 1), (.invokevirtual 137, 3), (.iload_n 1, 1), (.ireturn, 1)] := Jvm.Free.DS.facts 0 _ (by decide +kernel) (by decide +kernel)
theorem d_MD_toldQuad_0 : decode prog_12_method_15_code 0 = .ok (.aload_n 0, 1) := F_MD_toldQuad_0.1
theorem d_MD_toldQuad_1 : decode prog_12_method_15_code 1 = .ok (.getfield 124, 3) := F_MD_toldQuad_0.2.1
theorem d_MD_toldQuad_4 : decode prog_12_method_15_code 4 = .ok (.ifCond .ne (23), 3) := F_MD_toldQuad_0.2.2.1
theorem d_MD_toldQuad_7 : decode prog_12_method_15_code 7 = .ok (.aload_n 0, 1) := F_MD_toldQuad_0.2.2.2.1
theorem d_MD_toldQuad_8 : decode prog_12_method_15_code 8 = .ok (.invokevirtual 147, 3) := F_MD_toldQuad_0.2.2.2.2.1
theorem d_MD_toldQuad_11 : decode prog_12_method_15_code 11 = .ok (.ifCond .eq (11), 3) := F_MD_toldQuad_0.2.2.2.2.2.1
theorem d_MD_toldQuad_14 : decode prog_12_method_15_code 14 = .ok (.aload_n 0, 1) := F_MD_toldQuad_0.2.2.2.2.2.2.1
theorem d_MD_toldQuad_15 : decode prog_12_method_15_code 15 = .ok (.invokevirtual 151, 3) := F_MD_toldQuad_0.2.2.2.2.2.2.2.1
theorem d_MD_toldQuad_18 : decode prog_12_method_15_code 18 = .ok (.iconst (-1), 1) := F_MD_toldQuad_0.2.2.2.2.2.2.2.2.1
theorem d_MD_toldQuad_19 : decode prog_12_method_15_code 19 = .ok (.if_icmp .ne (8), 3) := F_MD_toldQuad_0.2.2.2.2.2.2.2.2.2.1
theorem d_MD_toldQuad_22 : decode prog_12_method_15_code 22 = .ok (.aload_n 0, 1) := F_MD_toldQuad_0.2.2.2.2.2.2.2.2.2.2.1
theorem d_MD_toldQuad_23 : decode prog_12_method_15_code 23 = .ok (.iconst 1, 1) := F_MD_toldQuad_0.2.2.2.2.2.2.2.2.2.2.2.1
theorem d_MD_toldQuad_24 : decode prog_12_method_15_code 24 = .ok (.invokevirtual 140, 3) := F_MD_toldQuad_0.2.2.2.2.2.2.2.2.2.2.2.2.1
theorem d_MD_toldQuad_27 : decode prog_12_method_15_code 27 = .ok (.aload_n 0, 1) := F_MD_toldQuad_0.2.2.2.2.2.2.2.2.2.2.2.2.2.1
theorem d_MD_toldQuad_28 : decode prog_12_method_15_code 28 = .ok (.getfield 124, 3) := F_MD_toldQuad_0.2.2.2.2.2.2.2.2.2.2.2.2.2.2.1
theorem d_MD_toldQuad_31 : decode prog_12_method_15_code 31 = .ok (.ifCond .ne (10), 3) := F_MD_toldQuad_0.2.2.2.2.2.2.2.2.2.2.2.2.2.2.2.1
theorem d_MD_toldQuad_34 : decode prog_12_method_15_code 34 = .ok (.aload_n 0, 1) := F_MD_toldQuad_0.2.2.2.2.2.2.2.2.2.2.2.2.2.2.2.2.1
theorem d_MD_toldQuad_35 : decode prog_12_method_15_code 35 = .ok (.invokevirtual 151, 3) := F_MD_toldQuad_0.2.2.2.2.2.2.2.2.2.2.2.2.2.2.2.2.2.1
theorem d_MD_toldQuad_38 : decode prog_12_method_15_code 38 = .ok (.goto (4), 3) := F_MD_toldQuad_0.2.2.2.2.2.2.2.2.2.2.2.2.2.2.2.2.2.2.1
theorem d_MD_toldQuad_41 : decode prog_12_method_15_code 41 = .ok (.iconst 0, 1) := F_MD_toldQuad_0.2.2.2.2.2.2.2.2.2.2.2.2.2.2.2.2.2.2.2.1
theorem d_MD_toldQuad_42 : decode prog_12_method_15_code 42 = .ok (.istore_n 1, 1) := F_MD_toldQuad_0.2.2.2.2.2.2.2.2.2.2.2.2.2.2.2.2.2.2.2.2.1
theorem d_MD_toldQuad_43 : decode prog_12_method_15_code 43 = .ok (.aload_n 0, 1) := F_MD_toldQuad_0.2.2.2.2.2.2.2.2.2.2.2.2.2.2.2.2.2.2.2.2.2.1
theorem d_MD_toldQuad_44 : decode prog_12_method_15_code 44 = .ok (.invokevirtual 137, 3) := F_MD_toldQuad_0.2.2.2.2.2.2.2.2.2.2.2.2.2.2.2.2.2.2.2.2.2.2.1
theorem d_MD_toldQuad_47 : decode prog_12_method_15_code 47 = .ok (.iload_n 1, 1) := F_MD_toldQuad_0.2.2.2.2.2.2.2.2.2.2.2.2.2.2.2.2.2.2.2.2.2.2.2.1
theorem d_MD_toldQuad_48 : decode prog_12_method_15_code 48 = .ok (.ireturn, 1) := F_MD_toldQuad_0.2.2.2.2.2.2.2.2.2.2.2.2.2.2.2.2.2.2.2.2.2.2.2.2.1
theorem F_MD_laysMap_0 : Jvm.Free.DS.Facts prog_12_method_36_code 0 [(.aload_n 0, 1), (.getfield 44, 3), (.aload_n 1, 1), (.iload_n 2, 1), (.invokestatic 226, 3), (.aload_n 0, 1), (.getfield 44, 3), (.invokestatic 220, 3), (.aload_n 0, 1), (.getfield 47, 3), (.aload_n 0, 1), (.getfield 44, 3), (.invokestatic 230, 3), (.aload_n 0, 1), (.getfield 47, 3), (.invokestatic 220, 3), (.aload_n 0, 1), (.getfield 44, 3), (.aload_n 1, 1), (.iload_n 3, 1), (.invokestatic 226, 3), (.aload_n 0, 1), (.getfield 41, 3), (.aload_n 0, 1), (.getfield 44, 3), (.aload_n 0, 1), (.getfield 47, 3), (.invokestatic 234, 3), (.aload_n 0, 1), (.getfield 41, 3), (.invokestatic 220, 3), (.return_, 1)] := Jvm.Free.DS.facts 0 _ (by decide +kernel) (by decide +kernel)
theorem d_MD_laysMap_0 : decode prog_12_method_36_code 0 = .ok (.aload_n 0, 1) := F_MD_laysMap_0.1
theorem d_MD_laysMap_1 : decode prog_12_method_36_code 1 = .ok (.getfield 44, 3) := F_MD_laysMap_0.2.1
theorem d_MD_laysMap_4 : decode prog_12_method_36_code 4 = .ok (.aload_n 1, 1) := F_MD_laysMap_0.2.2.1
theorem d_MD_laysMap_5 : decode prog_12_method_36_code 5 = .ok (.iload_n 2, 1) := F_MD_laysMap_0.2.2.2.1
theorem d_MD_laysMap_6 : decode prog_12_method_36_code 6 = .ok (.invokestatic 226, 3) := F_MD_laysMap_0.2.2.2.2.1
theorem d_MD_laysMap_9 : decode prog_12_method_36_code 9 = .ok (.aload_n 0, 1) := F_MD_laysMap_0.2.2.2.2.2.1
theorem d_MD_laysMap_10 : decode prog_12_method_36_code 10 = .ok (.getfield 44, 3) := F_MD_laysMap_0.2.2.2.2.2.2.1
theorem d_MD_laysMap_13 : decode prog_12_method_36_code 13 = .ok (.invokestatic 220, 3) := F_MD_laysMap_0.2.2.2.2.2.2.2.1
theorem d_MD_laysMap_16 : decode prog_12_method_36_code 16 = .ok (.aload_n 0, 1) := F_MD_laysMap_0.2.2.2.2.2.2.2.2.1
theorem d_MD_laysMap_17 : decode prog_12_method_36_code 17 = .ok (.getfield 47, 3) := F_MD_laysMap_0.2.2.2.2.2.2.2.2.2.1
theorem d_MD_laysMap_20 : decode prog_12_method_36_code 20 = .ok (.aload_n 0, 1) := F_MD_laysMap_0.2.2.2.2.2.2.2.2.2.2.1
theorem d_MD_laysMap_21 : decode prog_12_method_36_code 21 = .ok (.getfield 44, 3) := F_MD_laysMap_0.2.2.2.2.2.2.2.2.2.2.2.1
theorem d_MD_laysMap_24 : decode prog_12_method_36_code 24 = .ok (.invokestatic 230, 3) := F_MD_laysMap_0.2.2.2.2.2.2.2.2.2.2.2.2.1
theorem d_MD_laysMap_27 : decode prog_12_method_36_code 27 = .ok (.aload_n 0, 1) := F_MD_laysMap_0.2.2.2.2.2.2.2.2.2.2.2.2.2.1
theorem d_MD_laysMap_28 : decode prog_12_method_36_code 28 = .ok (.getfield 47, 3) := F_MD_laysMap_0.2.2.2.2.2.2.2.2.2.2.2.2.2.2.1
theorem d_MD_laysMap_31 : decode prog_12_method_36_code 31 = .ok (.invokestatic 220, 3) := F_MD_laysMap_0.2.2.2.2.2.2.2.2.2.2.2.2.2.2.2.1
theorem d_MD_laysMap_34 : decode prog_12_method_36_code 34 = .ok (.aload_n 0, 1) := F_MD_laysMap_0.2.2.2.2.2.2.2.2.2.2.2.2.2.2.2.2.1
theorem d_MD_laysMap_35 : decode prog_12_method_36_code 35 = .ok (.getfield 44, 3) := F_MD_laysMap_0.2.2.2.2.2.2.2.2.2.2.2.2.2.2.2.2.2.1
theorem d_MD_laysMap_38 : decode prog_12_method_36_code 38 = .ok (.aload_n 1, 1) := F_MD_laysMap_0.2.2.2.2.2.2.2.2.2.2.2.2.2.2.2.2.2.2.1
theorem d_MD_laysMap_39 : decode prog_12_method_36_code 39 = .ok (.iload_n 3, 1) := F_MD_laysMap_0.2.2.2.2.2.2.2.2.2.2.2.2.2.2.2.2.2.2.2.1
theorem d_MD_laysMap_40 : decode prog_12_method_36_code 40 = .ok (.invokestatic 226, 3) := F_MD_laysMap_0.2.2.2.2.2.2.2.2.2.2.2.2.2.2.2.2.2.2.2.2.1
theorem d_MD_laysMap_43 : decode prog_12_method_36_code 43 = .ok (.aload_n 0, 1) := F_MD_laysMap_0.2.2.2.2.2.2.2.2.2.2.2.2.2.2.2.2.2.2.2.2.2.1
theorem d_MD_laysMap_44 : decode prog_12_method_36_code 44 = .ok (.getfield 41, 3) := F_MD_laysMap_0.2.2.2.2.2.2.2.2.2.2.2.2.2.2.2.2.2.2.2.2.2.2.1
theorem d_MD_laysMap_47 : decode prog_12_method_36_code 47 = .ok (.aload_n 0, 1) := F_MD_laysMap_0.2.2.2.2.2.2.2.2.2.2.2.2.2.2.2.2.2.2.2.2.2.2.2.1
theorem d_MD_laysMap_48 : decode prog_12_method_36_code 48 = .ok (.getfield 44, 3) := F_MD_laysMap_0.2.2.2.2.2.2.2.2.2.2.2.2.2.2.2.2.2.2.2.2.2.2.2.2.1
theorem d_MD_laysMap_51 : decode prog_12_method_36_code 51 = .ok (.aload_n 0, 1) := F_MD_laysMap_0.2.2.2.2.2.2.2.2.2.2.2.2.2.2.2.2.2.2.2.2.2.2.2.2.2.1
theorem d_MD_laysMap_52 : decode prog_12_method_36_code 52 = .ok (.getfield 47, 3) := F_MD_laysMap_0.2.2.2.2.2.2.2.2.2.2.2.2.2.2.2.2.2.2.2.2.2.2.2.2.2.2.1
theorem d_MD_laysMap_55 : decode prog_12_method_36_code 55 = .ok (.invokestatic 234, 3) := F_MD_laysMap_0.2.2.2.2.2.2.2.2.2.2.2.2.2.2.2.2.2.2.2.2.2.2.2.2.2.2.2.1
theorem d_MD_laysMap_58 : decode prog_12_method_36_code 58 = .ok (.aload_n 0, 1) := F_MD_laysMap_0.2.2.2.2.2.2.2.2.2.2.2.2.2.2.2.2.2.2.2.2.2.2.2.2.2.2.2.2.1
theorem d_MD_laysMap_59 : decode prog_12_method_36_code 59 = .ok (.getfield 41, 3) := F_MD_laysMap_0.2.2.2.2.2.2.2.2.2.2.2.2.2.2.2.2.2.2.2.2.2.2.2.2.2.2.2.2.2.1
theorem d_MD_laysMap_62 : decode prog_12_method_36_code 62 = .ok (.invokestatic 220, 3) := F_MD_laysMap_0.2.2.2.2.2.2.2.2.2.2.2.2.2.2.2.2.2.2.2.2.2.2.2.2.2.2.2.2.2.2.1
theorem d_MD_laysMap_65 : decode prog_12_method_36_code 65 = .ok (.return_, 1) := F_MD_laysMap_0.2.2.2.2.2.2.2.2.2.2.2.2.2.2.2.2.2.2.2.2.2.2.2.2.2.2.2.2.2.2.2.1
theorem F_MD_basis_0 : Jvm.Free.DS.Facts prog_12_method_35_code 0 [(.iconst 0, 1), (.istore_n 3, 1), (.iload_n 3, 1), (.iconst 3, 1), (.if_icmp .ge (82), 3), (.iload_n 3, 1), (.iconst 1, 1), (.iadd, 1), (.iconst 3, 1), (.irem, 1), (.istore 4, 2), (.iload_n 3, 1), (.iconst 2, 1), (.iadd, 1), (.iconst 3, 1), (.irem, 1), (.istore 5, 2), (.aload_n 1, 1), (.iload_n 2, 1), (.iload 4, 2), (.iload 5, 2), (.iconst 3, 1), (.invokestatic 161, 3), (.i2l, 1), (.lstore 6, 2), (.aload_n 0, 1), (.iload_n 3, 1), (.lload 6, 2), (.aload_n 1, 1), (.bipush (8), 2), (.iload_n 2, 1), (.imul, 1)] := Jvm.Free.DS.facts 0 _ (by decide +kernel) (by decide +kernel)
theorem d_MD_basis_0 : decode prog_12_method_35_code 0 = .ok (.iconst 0, 1) := F_MD_basis_0.1
theorem d_MD_basis_1 : decode prog_12_method_35_code 1 = .ok (.istore_n 3, 1) := F_MD_basis_0.2.1
theorem d_MD_basis_2 : decode prog_12_method_35_code 2 = .ok (.iload_n 3, 1) := F_MD_basis_0.2.2.1
theorem d_MD_basis_3 : decode prog_12_method_35_code 3 = .ok (.iconst 3, 1) := F_MD_basis_0.2.2.2.1
theorem d_MD_basis_4 : decode prog_12_method_35_code 4 = .ok (.if_icmp .ge (82), 3) := F_MD_basis_0.2.2.2.2.1
theorem d_MD_basis_7 : decode prog_12_method_35_code 7 = .ok (.iload_n 3, 1) := F_MD_basis_0.2.2.2.2.2.1
theorem d_MD_basis_8 : decode prog_12_method_35_code 8 = .ok (.iconst 1, 1) := F_MD_basis_0.2.2.2.2.2.2.1
theorem d_MD_basis_9 : decode prog_12_method_35_code 9 = .ok (.iadd, 1) := F_MD_basis_0.2.2.2.2.2.2.2.1
theorem d_MD_basis_10 : decode prog_12_method_35_code 10 = .ok (.iconst 3, 1) := F_MD_basis_0.2.2.2.2.2.2.2.2.1
theorem d_MD_basis_11 : decode prog_12_method_35_code 11 = .ok (.irem, 1) := F_MD_basis_0.2.2.2.2.2.2.2.2.2.1
theorem d_MD_basis_12 : decode prog_12_method_35_code 12 = .ok (.istore 4, 2) := F_MD_basis_0.2.2.2.2.2.2.2.2.2.2.1
theorem d_MD_basis_14 : decode prog_12_method_35_code 14 = .ok (.iload_n 3, 1) := F_MD_basis_0.2.2.2.2.2.2.2.2.2.2.2.1
theorem d_MD_basis_15 : decode prog_12_method_35_code 15 = .ok (.iconst 2, 1) := F_MD_basis_0.2.2.2.2.2.2.2.2.2.2.2.2.1
theorem d_MD_basis_16 : decode prog_12_method_35_code 16 = .ok (.iadd, 1) := F_MD_basis_0.2.2.2.2.2.2.2.2.2.2.2.2.2.1
theorem d_MD_basis_17 : decode prog_12_method_35_code 17 = .ok (.iconst 3, 1) := F_MD_basis_0.2.2.2.2.2.2.2.2.2.2.2.2.2.2.1
theorem d_MD_basis_18 : decode prog_12_method_35_code 18 = .ok (.irem, 1) := F_MD_basis_0.2.2.2.2.2.2.2.2.2.2.2.2.2.2.2.1
theorem d_MD_basis_19 : decode prog_12_method_35_code 19 = .ok (.istore 5, 2) := F_MD_basis_0.2.2.2.2.2.2.2.2.2.2.2.2.2.2.2.2.1
theorem d_MD_basis_21 : decode prog_12_method_35_code 21 = .ok (.aload_n 1, 1) := F_MD_basis_0.2.2.2.2.2.2.2.2.2.2.2.2.2.2.2.2.2.1
theorem d_MD_basis_22 : decode prog_12_method_35_code 22 = .ok (.iload_n 2, 1) := F_MD_basis_0.2.2.2.2.2.2.2.2.2.2.2.2.2.2.2.2.2.2.1
theorem d_MD_basis_23 : decode prog_12_method_35_code 23 = .ok (.iload 4, 2) := F_MD_basis_0.2.2.2.2.2.2.2.2.2.2.2.2.2.2.2.2.2.2.2.1
theorem d_MD_basis_25 : decode prog_12_method_35_code 25 = .ok (.iload 5, 2) := F_MD_basis_0.2.2.2.2.2.2.2.2.2.2.2.2.2.2.2.2.2.2.2.2.1
theorem d_MD_basis_27 : decode prog_12_method_35_code 27 = .ok (.iconst 3, 1) := F_MD_basis_0.2.2.2.2.2.2.2.2.2.2.2.2.2.2.2.2.2.2.2.2.2.1
theorem d_MD_basis_28 : decode prog_12_method_35_code 28 = .ok (.invokestatic 161, 3) := F_MD_basis_0.2.2.2.2.2.2.2.2.2.2.2.2.2.2.2.2.2.2.2.2.2.2.1
theorem d_MD_basis_31 : decode prog_12_method_35_code 31 = .ok (.i2l, 1) := F_MD_basis_0.2.2.2.2.2.2.2.2.2.2.2.2.2.2.2.2.2.2.2.2.2.2.2.1
theorem d_MD_basis_32 : decode prog_12_method_35_code 32 = .ok (.lstore 6, 2) := F_MD_basis_0.2.2.2.2.2.2.2.2.2.2.2.2.2.2.2.2.2.2.2.2.2.2.2.2.1
theorem d_MD_basis_34 : decode prog_12_method_35_code 34 = .ok (.aload_n 0, 1) := F_MD_basis_0.2.2.2.2.2.2.2.2.2.2.2.2.2.2.2.2.2.2.2.2.2.2.2.2.2.1
theorem d_MD_basis_35 : decode prog_12_method_35_code 35 = .ok (.iload_n 3, 1) := F_MD_basis_0.2.2.2.2.2.2.2.2.2.2.2.2.2.2.2.2.2.2.2.2.2.2.2.2.2.2.1
theorem d_MD_basis_36 : decode prog_12_method_35_code 36 = .ok (.lload 6, 2) := F_MD_basis_0.2.2.2.2.2.2.2.2.2.2.2.2.2.2.2.2.2.2.2.2.2.2.2.2.2.2.2.1
theorem d_MD_basis_38 : decode prog_12_method_35_code 38 = .ok (.aload_n 1, 1) := F_MD_basis_0.2.2.2.2.2.2.2.2.2.2.2.2.2.2.2.2.2.2.2.2.2.2.2.2.2.2.2.2.1
theorem d_MD_basis_39 : decode prog_12_method_35_code 39 = .ok (.bipush (8), 2) := F_MD_basis_0.2.2.2.2.2.2.2.2.2.2.2.2.2.2.2.2.2.2.2.2.2.2.2.2.2.2.2.2.2.1
theorem d_MD_basis_41 : decode prog_12_method_35_code 41 = .ok (.iload_n 2, 1) := F_MD_basis_0.2.2.2.2.2.2.2.2.2.2.2.2.2.2.2.2.2.2.2.2.2.2.2.2.2.2.2.2.2.2.1
theorem d_MD_basis_42 : decode prog_12_method_35_code 42 = .ok (.imul, 1) := F_MD_basis_0.2.2.2.2.2.2.2.2.2.2.2.2.2.2.2.2.2.2.2.2.2.2.2.2.2.2.2.2.2.2.2.1
theorem F_MD_basis_43 : Jvm.Free.DS.Facts prog_12_method_35_code 43 [(.iconst 2, 1), (.iload_n 3, 1), (.imul, 1), (.iadd, 1), (.iaload, 1), (.i2l, 1), (.lmul, 1), (.lastore, 1), (.aload_n 0, 1), (.iconst 3, 1), (.iload_n 3, 1), (.iadd, 1), (.lload 6, 2), (.aload_n 1, 1), (.bipush (8), 2), (.iload_n 2, 1), (.imul, 1), (.iconst 2, 1), (.iload_n 3, 1), (.imul, 1), (.iadd, 1), (.iconst 1, 1), (.iadd, 1), (.iaload, 1), (.i2l, 1), (.lmul, 1), (.lastore, 1), (.aload_n 0, 1), (.bipush (6), 2), (.iload_n 3, 1), (.iadd, 1), (.lload 6, 2)] := Jvm.Free.DS.facts 43 _ (by decide +kernel) (by decide +kernel)
theorem d_MD_basis_43 : decode prog_12_method_35_code 43 = .ok (.iconst 2, 1) := F_MD_basis_43.1
theorem d_MD_basis_44 : decode prog_12_method_35_code 44 = .ok (.iload_n 3, 1) := F_MD_basis_43.2.1
theorem d_MD_basis_45 : decode prog_12_method_35_code 45 = .ok (.imul, 1) := F_MD_basis_43.2.2.1
theorem d_MD_basis_46 : decode prog_12_method_35_code 46 = .ok (.iadd, 1) := F_MD_basis_43.2.2.2.1
theorem d_MD_basis_47 : decode prog_12_method_35_code 47 = .ok (.iaload, 1) := F_MD_basis_43.2.2.2.2.1
theorem d_MD_basis_48 : decode prog_12_method_35_code 48 = .ok (.i2l, 1) := F_MD_basis_43.2.2.2.2.2.1
theorem d_MD_basis_49 : decode prog_12_method_35_code 49 = .ok (.lmul, 1) := F_MD_basis_43.2.2.2.2.2.2.1
theorem d_MD_basis_50 : decode prog_12_method_35_code 50 = .ok (.lastore, 1) := F_MD_basis_43.2.2.2.2.2.2.2.1
theorem d_MD_basis_51 : decode prog_12_method_35_code 51 = .ok (.aload_n 0, 1) := F_MD_basis_43.2.2.2.2.2.2.2.2.1
theorem d_MD_basis_52 : decode prog_12_method_35_code 52 = .ok (.iconst 3, 1) := F_MD_basis_43.2.2.2.2.2.2.2.2.2.1
theorem d_MD_basis_53 : decode prog_12_method_35_code 53 = .ok (.iload_n 3, 1) := F_MD_basis_43.2.2.2.2.2.2.2.2.2.2.1
theorem d_MD_basis_54 : decode prog_12_method_35_code 54 = .ok (.iadd, 1) := F_MD_basis_43.2.2.2.2.2.2.2.2.2.2.2.1
theorem d_MD_basis_55 : decode prog_12_method_35_code 55 = .ok (.lload 6, 2) := F_MD_basis_43.2.2.2.2.2.2.2.2.2.2.2.2.1
theorem d_MD_basis_57 : decode prog_12_method_35_code 57 = .ok (.aload_n 1, 1) := F_MD_basis_43.2.2.2.2.2.2.2.2.2.2.2.2.2.1
theorem d_MD_basis_58 : decode prog_12_method_35_code 58 = .ok (.bipush (8), 2) := F_MD_basis_43.2.2.2.2.2.2.2.2.2.2.2.2.2.2.1
theorem d_MD_basis_60 : decode prog_12_method_35_code 60 = .ok (.iload_n 2, 1) := F_MD_basis_43.2.2.2.2.2.2.2.2.2.2.2.2.2.2.2.1
theorem d_MD_basis_61 : decode prog_12_method_35_code 61 = .ok (.imul, 1) := F_MD_basis_43.2.2.2.2.2.2.2.2.2.2.2.2.2.2.2.2.1
theorem d_MD_basis_62 : decode prog_12_method_35_code 62 = .ok (.iconst 2, 1) := F_MD_basis_43.2.2.2.2.2.2.2.2.2.2.2.2.2.2.2.2.2.1
theorem d_MD_basis_63 : decode prog_12_method_35_code 63 = .ok (.iload_n 3, 1) := F_MD_basis_43.2.2.2.2.2.2.2.2.2.2.2.2.2.2.2.2.2.2.1
theorem d_MD_basis_64 : decode prog_12_method_35_code 64 = .ok (.imul, 1) := F_MD_basis_43.2.2.2.2.2.2.2.2.2.2.2.2.2.2.2.2.2.2.2.1
theorem d_MD_basis_65 : decode prog_12_method_35_code 65 = .ok (.iadd, 1) := F_MD_basis_43.2.2.2.2.2.2.2.2.2.2.2.2.2.2.2.2.2.2.2.2.1
theorem d_MD_basis_66 : decode prog_12_method_35_code 66 = .ok (.iconst 1, 1) := F_MD_basis_43.2.2.2.2.2.2.2.2.2.2.2.2.2.2.2.2.2.2.2.2.2.1
theorem d_MD_basis_67 : decode prog_12_method_35_code 67 = .ok (.iadd, 1) := F_MD_basis_43.2.2.2.2.2.2.2.2.2.2.2.2.2.2.2.2.2.2.2.2.2.2.1
theorem d_MD_basis_68 : decode prog_12_method_35_code 68 = .ok (.iaload, 1) := F_MD_basis_43.2.2.2.2.2.2.2.2.2.2.2.2.2.2.2.2.2.2.2.2.2.2.2.1
theorem d_MD_basis_69 : decode prog_12_method_35_code 69 = .ok (.i2l, 1) := F_MD_basis_43.2.2.2.2.2.2.2.2.2.2.2.2.2.2.2.2.2.2.2.2.2.2.2.2.1
theorem d_MD_basis_70 : decode prog_12_method_35_code 70 = .ok (.lmul, 1) := F_MD_basis_43.2.2.2.2.2.2.2.2.2.2.2.2.2.2.2.2.2.2.2.2.2.2.2.2.2.1
theorem d_MD_basis_71 : decode prog_12_method_35_code 71 = .ok (.lastore, 1) := F_MD_basis_43.2.2.2.2.2.2.2.2.2.2.2.2.2.2.2.2.2.2.2.2.2.2.2.2.2.2.1
theorem d_MD_basis_72 : decode prog_12_method_35_code 72 = .ok (.aload_n 0, 1) := F_MD_basis_43.2.2.2.2.2.2.2.2.2.2.2.2.2.2.2.2.2.2.2.2.2.2.2.2.2.2.2.1
theorem d_MD_basis_73 : decode prog_12_method_35_code 73 = .ok (.bipush (6), 2) := F_MD_basis_43.2.2.2.2.2.2.2.2.2.2.2.2.2.2.2.2.2.2.2.2.2.2.2.2.2.2.2.2.1
theorem d_MD_basis_75 : decode prog_12_method_35_code 75 = .ok (.iload_n 3, 1) := F_MD_basis_43.2.2.2.2.2.2.2.2.2.2.2.2.2.2.2.2.2.2.2.2.2.2.2.2.2.2.2.2.2.1
theorem d_MD_basis_76 : decode prog_12_method_35_code 76 = .ok (.iadd, 1) := F_MD_basis_43.2.2.2.2.2.2.2.2.2.2.2.2.2.2.2.2.2.2.2.2.2.2.2.2.2.2.2.2.2.2.1
theorem d_MD_basis_77 : decode prog_12_method_35_code 77 = .ok (.lload 6, 2) := F_MD_basis_43.2.2.2.2.2.2.2.2.2.2.2.2.2.2.2.2.2.2.2.2.2.2.2.2.2.2.2.2.2.2.2.1
theorem F_MD_basis_79 : Jvm.Free.DS.Facts prog_12_method_35_code 79 [(.lastore, 1), (.iinc 3 (1), 3), (.goto (-81), 3), (.return_, 1)] := Jvm.Free.DS.facts 79 _ (by decide +kernel) (by decide +kernel)
theorem d_MD_basis_79 : decode prog_12_method_35_code 79 = .ok (.lastore, 1) := F_MD_basis_79.1
theorem d_MD_basis_80 : decode prog_12_method_35_code 80 = .ok (.iinc 3 (1), 3) := F_MD_basis_79.2.1
theorem d_MD_basis_83 : decode prog_12_method_35_code 83 = .ok (.goto (-81), 3) := F_MD_basis_79.2.2.1
theorem d_MD_basis_86 : decode prog_12_method_35_code 86 = .ok (.return_, 1) := F_MD_basis_79.2.2.2.1
theorem F_MD_reduces_0 : Jvm.Free.DS.Facts prog_12_method_24_code 0 [(.lconst 0, 1), (.lstore_n 1, 1), (.lconst 0, 1), (.lstore_n 3, 1), (.iconst 0, 1), (.istore 5, 2), (.iload 5, 2), (.aload_n 0, 1), (.arraylength, 1), (.if_icmp .ge (36), 3), (.lload_n 1, 1), (.aload_n 0, 1), (.iload 5, 2), (.laload, 1), (.invokestatic 216, 3), (.lstore_n 1, 1), (.aload_n 0, 1), (.iload 5, 2), (.laload, 1), (.lconst 0, 1), (.lcmp, 1), (.ifCond .eq (10), 3), (.aload_n 0, 1), (.iload 5, 2), (.laload, 1), (.goto (4), 3), (.lload_n 3, 1), (.lstore_n 3, 1), (.iinc 5 (1), 3), (.goto (-37), 3), (.lload_n 1, 1), (.lconst 0, 1)] := Jvm.Free.DS.facts 0 _ (by decide +kernel) (by decide +kernel)
theorem d_MD_reduces_0 : decode prog_12_method_24_code 0 = .ok (.lconst 0, 1) := F_MD_reduces_0.1
theorem d_MD_reduces_1 : decode prog_12_method_24_code 1 = .ok (.lstore_n 1, 1) := F_MD_reduces_0.2.1
theorem d_MD_reduces_2 : decode prog_12_method_24_code 2 = .ok (.lconst 0, 1) := F_MD_reduces_0.2.2.1
theorem d_MD_reduces_3 : decode prog_12_method_24_code 3 = .ok (.lstore_n 3, 1) := F_MD_reduces_0.2.2.2.1
theorem d_MD_reduces_4 : decode prog_12_method_24_code 4 = .ok (.iconst 0, 1) := F_MD_reduces_0.2.2.2.2.1
theorem d_MD_reduces_5 : decode prog_12_method_24_code 5 = .ok (.istore 5, 2) := F_MD_reduces_0.2.2.2.2.2.1
theorem d_MD_reduces_7 : decode prog_12_method_24_code 7 = .ok (.iload 5, 2) := F_MD_reduces_0.2.2.2.2.2.2.1
theorem d_MD_reduces_9 : decode prog_12_method_24_code 9 = .ok (.aload_n 0, 1) := F_MD_reduces_0.2.2.2.2.2.2.2.1
theorem d_MD_reduces_10 : decode prog_12_method_24_code 10 = .ok (.arraylength, 1) := F_MD_reduces_0.2.2.2.2.2.2.2.2.1
theorem d_MD_reduces_11 : decode prog_12_method_24_code 11 = .ok (.if_icmp .ge (36), 3) := F_MD_reduces_0.2.2.2.2.2.2.2.2.2.1
theorem d_MD_reduces_14 : decode prog_12_method_24_code 14 = .ok (.lload_n 1, 1) := F_MD_reduces_0.2.2.2.2.2.2.2.2.2.2.1
theorem d_MD_reduces_15 : decode prog_12_method_24_code 15 = .ok (.aload_n 0, 1) := F_MD_reduces_0.2.2.2.2.2.2.2.2.2.2.2.1
theorem d_MD_reduces_16 : decode prog_12_method_24_code 16 = .ok (.iload 5, 2) := F_MD_reduces_0.2.2.2.2.2.2.2.2.2.2.2.2.1
theorem d_MD_reduces_18 : decode prog_12_method_24_code 18 = .ok (.laload, 1) := F_MD_reduces_0.2.2.2.2.2.2.2.2.2.2.2.2.2.1
theorem d_MD_reduces_19 : decode prog_12_method_24_code 19 = .ok (.invokestatic 216, 3) := F_MD_reduces_0.2.2.2.2.2.2.2.2.2.2.2.2.2.2.1
theorem d_MD_reduces_22 : decode prog_12_method_24_code 22 = .ok (.lstore_n 1, 1) := F_MD_reduces_0.2.2.2.2.2.2.2.2.2.2.2.2.2.2.2.1
theorem d_MD_reduces_23 : decode prog_12_method_24_code 23 = .ok (.aload_n 0, 1) := F_MD_reduces_0.2.2.2.2.2.2.2.2.2.2.2.2.2.2.2.2.1
theorem d_MD_reduces_24 : decode prog_12_method_24_code 24 = .ok (.iload 5, 2) := F_MD_reduces_0.2.2.2.2.2.2.2.2.2.2.2.2.2.2.2.2.2.1
theorem d_MD_reduces_26 : decode prog_12_method_24_code 26 = .ok (.laload, 1) := F_MD_reduces_0.2.2.2.2.2.2.2.2.2.2.2.2.2.2.2.2.2.2.1
theorem d_MD_reduces_27 : decode prog_12_method_24_code 27 = .ok (.lconst 0, 1) := F_MD_reduces_0.2.2.2.2.2.2.2.2.2.2.2.2.2.2.2.2.2.2.2.1
theorem d_MD_reduces_28 : decode prog_12_method_24_code 28 = .ok (.lcmp, 1) := F_MD_reduces_0.2.2.2.2.2.2.2.2.2.2.2.2.2.2.2.2.2.2.2.2.1
theorem d_MD_reduces_29 : decode prog_12_method_24_code 29 = .ok (.ifCond .eq (10), 3) := F_MD_reduces_0.2.2.2.2.2.2.2.2.2.2.2.2.2.2.2.2.2.2.2.2.2.1
theorem d_MD_reduces_32 : decode prog_12_method_24_code 32 = .ok (.aload_n 0, 1) := F_MD_reduces_0.2.2.2.2.2.2.2.2.2.2.2.2.2.2.2.2.2.2.2.2.2.2.1
theorem d_MD_reduces_33 : decode prog_12_method_24_code 33 = .ok (.iload 5, 2) := F_MD_reduces_0.2.2.2.2.2.2.2.2.2.2.2.2.2.2.2.2.2.2.2.2.2.2.2.1
theorem d_MD_reduces_35 : decode prog_12_method_24_code 35 = .ok (.laload, 1) := F_MD_reduces_0.2.2.2.2.2.2.2.2.2.2.2.2.2.2.2.2.2.2.2.2.2.2.2.2.1
theorem d_MD_reduces_36 : decode prog_12_method_24_code 36 = .ok (.goto (4), 3) := F_MD_reduces_0.2.2.2.2.2.2.2.2.2.2.2.2.2.2.2.2.2.2.2.2.2.2.2.2.2.1
theorem d_MD_reduces_39 : decode prog_12_method_24_code 39 = .ok (.lload_n 3, 1) := F_MD_reduces_0.2.2.2.2.2.2.2.2.2.2.2.2.2.2.2.2.2.2.2.2.2.2.2.2.2.2.1
theorem d_MD_reduces_40 : decode prog_12_method_24_code 40 = .ok (.lstore_n 3, 1) := F_MD_reduces_0.2.2.2.2.2.2.2.2.2.2.2.2.2.2.2.2.2.2.2.2.2.2.2.2.2.2.2.1
theorem d_MD_reduces_41 : decode prog_12_method_24_code 41 = .ok (.iinc 5 (1), 3) := F_MD_reduces_0.2.2.2.2.2.2.2.2.2.2.2.2.2.2.2.2.2.2.2.2.2.2.2.2.2.2.2.2.1
theorem d_MD_reduces_44 : decode prog_12_method_24_code 44 = .ok (.goto (-37), 3) := F_MD_reduces_0.2.2.2.2.2.2.2.2.2.2.2.2.2.2.2.2.2.2.2.2.2.2.2.2.2.2.2.2.2.1
theorem d_MD_reduces_47 : decode prog_12_method_24_code 47 = .ok (.lload_n 1, 1) := F_MD_reduces_0.2.2.2.2.2.2.2.2.2.2.2.2.2.2.2.2.2.2.2.2.2.2.2.2.2.2.2.2.2.2.1
theorem d_MD_reduces_48 : decode prog_12_method_24_code 48 = .ok (.lconst 0, 1) := F_MD_reduces_0.2.2.2.2.2.2.2.2.2.2.2.2.2.2.2.2.2.2.2.2.2.2.2.2.2.2.2.2.2.2.2.1
theorem F_MD_reduces_49 : Jvm.Free.DS.Facts prog_12_method_24_code 49 [(.lcmp, 1), (.ifCond .ne (4), 3), (.return_, 1), (.lload_n 3, 1), (.lconst 0, 1), (.lcmp, 1), (.ifCond .ge (8), 3), (.lload_n 1, 1), (.lneg, 1), (.goto (4), 3), (.lload_n 1, 1), (.lstore_n 1, 1), (.iconst 0, 1), (.istore 5, 2), (.iload 5, 2), (.aload_n 0, 1), (.arraylength, 1), (.if_icmp .ge (17), 3), (.aload_n 0, 1), (.iload 5, 2), (.dup2, 1), (.laload, 1), (.lload_n 1, 1), (.ldiv, 1), (.lastore, 1), (.iinc 5 (1), 3), (.goto (-18), 3), (.return_, 1)] := Jvm.Free.DS.facts 49 _ (by decide +kernel) (by decide +kernel)
theorem d_MD_reduces_49 : decode prog_12_method_24_code 49 = .ok (.lcmp, 1) := F_MD_reduces_49.1
theorem d_MD_reduces_50 : decode prog_12_method_24_code 50 = .ok (.ifCond .ne (4), 3) := F_MD_reduces_49.2.1
theorem d_MD_reduces_53 : decode prog_12_method_24_code 53 = .ok (.return_, 1) := F_MD_reduces_49.2.2.1
theorem d_MD_reduces_54 : decode prog_12_method_24_code 54 = .ok (.lload_n 3, 1) := F_MD_reduces_49.2.2.2.1
theorem d_MD_reduces_55 : decode prog_12_method_24_code 55 = .ok (.lconst 0, 1) := F_MD_reduces_49.2.2.2.2.1
theorem d_MD_reduces_56 : decode prog_12_method_24_code 56 = .ok (.lcmp, 1) := F_MD_reduces_49.2.2.2.2.2.1
theorem d_MD_reduces_57 : decode prog_12_method_24_code 57 = .ok (.ifCond .ge (8), 3) := F_MD_reduces_49.2.2.2.2.2.2.1
theorem d_MD_reduces_60 : decode prog_12_method_24_code 60 = .ok (.lload_n 1, 1) := F_MD_reduces_49.2.2.2.2.2.2.2.1
theorem d_MD_reduces_61 : decode prog_12_method_24_code 61 = .ok (.lneg, 1) := F_MD_reduces_49.2.2.2.2.2.2.2.2.1
theorem d_MD_reduces_62 : decode prog_12_method_24_code 62 = .ok (.goto (4), 3) := F_MD_reduces_49.2.2.2.2.2.2.2.2.2.1
theorem d_MD_reduces_65 : decode prog_12_method_24_code 65 = .ok (.lload_n 1, 1) := F_MD_reduces_49.2.2.2.2.2.2.2.2.2.2.1
theorem d_MD_reduces_66 : decode prog_12_method_24_code 66 = .ok (.lstore_n 1, 1) := F_MD_reduces_49.2.2.2.2.2.2.2.2.2.2.2.1
theorem d_MD_reduces_67 : decode prog_12_method_24_code 67 = .ok (.iconst 0, 1) := F_MD_reduces_49.2.2.2.2.2.2.2.2.2.2.2.2.1
theorem d_MD_reduces_68 : decode prog_12_method_24_code 68 = .ok (.istore 5, 2) := F_MD_reduces_49.2.2.2.2.2.2.2.2.2.2.2.2.2.1
theorem d_MD_reduces_70 : decode prog_12_method_24_code 70 = .ok (.iload 5, 2) := F_MD_reduces_49.2.2.2.2.2.2.2.2.2.2.2.2.2.2.1
theorem d_MD_reduces_72 : decode prog_12_method_24_code 72 = .ok (.aload_n 0, 1) := F_MD_reduces_49.2.2.2.2.2.2.2.2.2.2.2.2.2.2.2.1
theorem d_MD_reduces_73 : decode prog_12_method_24_code 73 = .ok (.arraylength, 1) := F_MD_reduces_49.2.2.2.2.2.2.2.2.2.2.2.2.2.2.2.2.1
theorem d_MD_reduces_74 : decode prog_12_method_24_code 74 = .ok (.if_icmp .ge (17), 3) := F_MD_reduces_49.2.2.2.2.2.2.2.2.2.2.2.2.2.2.2.2.2.1
theorem d_MD_reduces_77 : decode prog_12_method_24_code 77 = .ok (.aload_n 0, 1) := F_MD_reduces_49.2.2.2.2.2.2.2.2.2.2.2.2.2.2.2.2.2.2.1
theorem d_MD_reduces_78 : decode prog_12_method_24_code 78 = .ok (.iload 5, 2) := F_MD_reduces_49.2.2.2.2.2.2.2.2.2.2.2.2.2.2.2.2.2.2.2.1
theorem d_MD_reduces_80 : decode prog_12_method_24_code 80 = .ok (.dup2, 1) := F_MD_reduces_49.2.2.2.2.2.2.2.2.2.2.2.2.2.2.2.2.2.2.2.2.1
theorem d_MD_reduces_81 : decode prog_12_method_24_code 81 = .ok (.laload, 1) := F_MD_reduces_49.2.2.2.2.2.2.2.2.2.2.2.2.2.2.2.2.2.2.2.2.2.1
theorem d_MD_reduces_82 : decode prog_12_method_24_code 82 = .ok (.lload_n 1, 1) := F_MD_reduces_49.2.2.2.2.2.2.2.2.2.2.2.2.2.2.2.2.2.2.2.2.2.2.1
theorem d_MD_reduces_83 : decode prog_12_method_24_code 83 = .ok (.ldiv, 1) := F_MD_reduces_49.2.2.2.2.2.2.2.2.2.2.2.2.2.2.2.2.2.2.2.2.2.2.2.1
theorem d_MD_reduces_84 : decode prog_12_method_24_code 84 = .ok (.lastore, 1) := F_MD_reduces_49.2.2.2.2.2.2.2.2.2.2.2.2.2.2.2.2.2.2.2.2.2.2.2.2.1
theorem d_MD_reduces_85 : decode prog_12_method_24_code 85 = .ok (.iinc 5 (1), 3) := F_MD_reduces_49.2.2.2.2.2.2.2.2.2.2.2.2.2.2.2.2.2.2.2.2.2.2.2.2.2.1
theorem d_MD_reduces_88 : decode prog_12_method_24_code 88 = .ok (.goto (-18), 3) := F_MD_reduces_49.2.2.2.2.2.2.2.2.2.2.2.2.2.2.2.2.2.2.2.2.2.2.2.2.2.2.1
theorem d_MD_reduces_91 : decode prog_12_method_24_code 91 = .ok (.return_, 1) := F_MD_reduces_49.2.2.2.2.2.2.2.2.2.2.2.2.2.2.2.2.2.2.2.2.2.2.2.2.2.2.2.1
theorem F_MD_common_0 : Jvm.Free.DS.Facts prog_12_method_23_code 0 [(.lload_n 0, 1), (.invokestatic 210, 3), (.lstore 4, 2), (.lload_n 2, 1), (.invokestatic 210, 3), (.lstore 6, 2), (.lload 6, 2), (.lconst 0, 1), (.lcmp, 1), (.ifCond .eq (21), 3), (.lload 4, 2), (.lload 6, 2), (.lrem, 1), (.lstore 8, 2), (.lload 6, 2), (.lstore 4, 2), (.lload 8, 2), (.lstore 6, 2), (.goto (-22), 3), (.lload 4, 2), (.lreturn, 1)] := Jvm.Free.DS.facts 0 _ (by decide +kernel) (by decide +kernel)
theorem d_MD_common_0 : decode prog_12_method_23_code 0 = .ok (.lload_n 0, 1) := F_MD_common_0.1
theorem d_MD_common_1 : decode prog_12_method_23_code 1 = .ok (.invokestatic 210, 3) := F_MD_common_0.2.1
theorem d_MD_common_4 : decode prog_12_method_23_code 4 = .ok (.lstore 4, 2) := F_MD_common_0.2.2.1
theorem d_MD_common_6 : decode prog_12_method_23_code 6 = .ok (.lload_n 2, 1) := F_MD_common_0.2.2.2.1
theorem d_MD_common_7 : decode prog_12_method_23_code 7 = .ok (.invokestatic 210, 3) := F_MD_common_0.2.2.2.2.1
theorem d_MD_common_10 : decode prog_12_method_23_code 10 = .ok (.lstore 6, 2) := F_MD_common_0.2.2.2.2.2.1
theorem d_MD_common_12 : decode prog_12_method_23_code 12 = .ok (.lload 6, 2) := F_MD_common_0.2.2.2.2.2.2.1
theorem d_MD_common_14 : decode prog_12_method_23_code 14 = .ok (.lconst 0, 1) := F_MD_common_0.2.2.2.2.2.2.2.1
theorem d_MD_common_15 : decode prog_12_method_23_code 15 = .ok (.lcmp, 1) := F_MD_common_0.2.2.2.2.2.2.2.2.1
theorem d_MD_common_16 : decode prog_12_method_23_code 16 = .ok (.ifCond .eq (21), 3) := F_MD_common_0.2.2.2.2.2.2.2.2.2.1
theorem d_MD_common_19 : decode prog_12_method_23_code 19 = .ok (.lload 4, 2) := F_MD_common_0.2.2.2.2.2.2.2.2.2.2.1
theorem d_MD_common_21 : decode prog_12_method_23_code 21 = .ok (.lload 6, 2) := F_MD_common_0.2.2.2.2.2.2.2.2.2.2.2.1
theorem d_MD_common_23 : decode prog_12_method_23_code 23 = .ok (.lrem, 1) := F_MD_common_0.2.2.2.2.2.2.2.2.2.2.2.2.1
theorem d_MD_common_24 : decode prog_12_method_23_code 24 = .ok (.lstore 8, 2) := F_MD_common_0.2.2.2.2.2.2.2.2.2.2.2.2.2.1
theorem d_MD_common_26 : decode prog_12_method_23_code 26 = .ok (.lload 6, 2) := F_MD_common_0.2.2.2.2.2.2.2.2.2.2.2.2.2.2.1
theorem d_MD_common_28 : decode prog_12_method_23_code 28 = .ok (.lstore 4, 2) := F_MD_common_0.2.2.2.2.2.2.2.2.2.2.2.2.2.2.2.1
theorem d_MD_common_30 : decode prog_12_method_23_code 30 = .ok (.lload 8, 2) := F_MD_common_0.2.2.2.2.2.2.2.2.2.2.2.2.2.2.2.2.1
theorem d_MD_common_32 : decode prog_12_method_23_code 32 = .ok (.lstore 6, 2) := F_MD_common_0.2.2.2.2.2.2.2.2.2.2.2.2.2.2.2.2.2.1
theorem d_MD_common_34 : decode prog_12_method_23_code 34 = .ok (.goto (-22), 3) := F_MD_common_0.2.2.2.2.2.2.2.2.2.2.2.2.2.2.2.2.2.2.1
theorem d_MD_common_37 : decode prog_12_method_23_code 37 = .ok (.lload 4, 2) := F_MD_common_0.2.2.2.2.2.2.2.2.2.2.2.2.2.2.2.2.2.2.2.1
theorem d_MD_common_39 : decode prog_12_method_23_code 39 = .ok (.lreturn, 1) := F_MD_common_0.2.2.2.2.2.2.2.2.2.2.2.2.2.2.2.2.2.2.2.2.1
theorem F_MD_turnsRound_0 : Jvm.Free.DS.Facts prog_12_method_33_code 0 [(.iconst 0, 1), (.istore_n 2, 1), (.iload_n 2, 1), (.iconst 3, 1), (.if_icmp .ge (98), 3), (.iload_n 2, 1), (.iconst 1, 1), (.iadd, 1), (.iconst 3, 1), (.irem, 1), (.istore_n 3, 1), (.iload_n 2, 1), (.iconst 2, 1), (.iadd, 1), (.iconst 3, 1), (.irem, 1), (.istore 4, 2), (.iconst 0, 1), (.istore 5, 2), (.iload 5, 2), (.iconst 3, 1), (.if_icmp .ge (70), 3), (.iload 5, 2), (.iconst 1, 1), (.iadd, 1), (.iconst 3, 1), (.irem, 1), (.istore 6, 2), (.iload 5, 2), (.iconst 2, 1), (.iadd, 1), (.iconst 3, 1)] := Jvm.Free.DS.facts 0 _ (by decide +kernel) (by decide +kernel)
theorem d_MD_turnsRound_0 : decode prog_12_method_33_code 0 = .ok (.iconst 0, 1) := F_MD_turnsRound_0.1
theorem d_MD_turnsRound_1 : decode prog_12_method_33_code 1 = .ok (.istore_n 2, 1) := F_MD_turnsRound_0.2.1
theorem d_MD_turnsRound_2 : decode prog_12_method_33_code 2 = .ok (.iload_n 2, 1) := F_MD_turnsRound_0.2.2.1
theorem d_MD_turnsRound_3 : decode prog_12_method_33_code 3 = .ok (.iconst 3, 1) := F_MD_turnsRound_0.2.2.2.1
theorem d_MD_turnsRound_4 : decode prog_12_method_33_code 4 = .ok (.if_icmp .ge (98), 3) := F_MD_turnsRound_0.2.2.2.2.1
theorem d_MD_turnsRound_7 : decode prog_12_method_33_code 7 = .ok (.iload_n 2, 1) := F_MD_turnsRound_0.2.2.2.2.2.1
theorem d_MD_turnsRound_8 : decode prog_12_method_33_code 8 = .ok (.iconst 1, 1) := F_MD_turnsRound_0.2.2.2.2.2.2.1
theorem d_MD_turnsRound_9 : decode prog_12_method_33_code 9 = .ok (.iadd, 1) := F_MD_turnsRound_0.2.2.2.2.2.2.2.1
theorem d_MD_turnsRound_10 : decode prog_12_method_33_code 10 = .ok (.iconst 3, 1) := F_MD_turnsRound_0.2.2.2.2.2.2.2.2.1
theorem d_MD_turnsRound_11 : decode prog_12_method_33_code 11 = .ok (.irem, 1) := F_MD_turnsRound_0.2.2.2.2.2.2.2.2.2.1
theorem d_MD_turnsRound_12 : decode prog_12_method_33_code 12 = .ok (.istore_n 3, 1) := F_MD_turnsRound_0.2.2.2.2.2.2.2.2.2.2.1
theorem d_MD_turnsRound_13 : decode prog_12_method_33_code 13 = .ok (.iload_n 2, 1) := F_MD_turnsRound_0.2.2.2.2.2.2.2.2.2.2.2.1
theorem d_MD_turnsRound_14 : decode prog_12_method_33_code 14 = .ok (.iconst 2, 1) := F_MD_turnsRound_0.2.2.2.2.2.2.2.2.2.2.2.2.1
theorem d_MD_turnsRound_15 : decode prog_12_method_33_code 15 = .ok (.iadd, 1) := F_MD_turnsRound_0.2.2.2.2.2.2.2.2.2.2.2.2.2.1
theorem d_MD_turnsRound_16 : decode prog_12_method_33_code 16 = .ok (.iconst 3, 1) := F_MD_turnsRound_0.2.2.2.2.2.2.2.2.2.2.2.2.2.2.1
theorem d_MD_turnsRound_17 : decode prog_12_method_33_code 17 = .ok (.irem, 1) := F_MD_turnsRound_0.2.2.2.2.2.2.2.2.2.2.2.2.2.2.2.1
theorem d_MD_turnsRound_18 : decode prog_12_method_33_code 18 = .ok (.istore 4, 2) := F_MD_turnsRound_0.2.2.2.2.2.2.2.2.2.2.2.2.2.2.2.2.1
theorem d_MD_turnsRound_20 : decode prog_12_method_33_code 20 = .ok (.iconst 0, 1) := F_MD_turnsRound_0.2.2.2.2.2.2.2.2.2.2.2.2.2.2.2.2.2.1
theorem d_MD_turnsRound_21 : decode prog_12_method_33_code 21 = .ok (.istore 5, 2) := F_MD_turnsRound_0.2.2.2.2.2.2.2.2.2.2.2.2.2.2.2.2.2.2.1
theorem d_MD_turnsRound_23 : decode prog_12_method_33_code 23 = .ok (.iload 5, 2) := F_MD_turnsRound_0.2.2.2.2.2.2.2.2.2.2.2.2.2.2.2.2.2.2.2.1
theorem d_MD_turnsRound_25 : decode prog_12_method_33_code 25 = .ok (.iconst 3, 1) := F_MD_turnsRound_0.2.2.2.2.2.2.2.2.2.2.2.2.2.2.2.2.2.2.2.2.1
theorem d_MD_turnsRound_26 : decode prog_12_method_33_code 26 = .ok (.if_icmp .ge (70), 3) := F_MD_turnsRound_0.2.2.2.2.2.2.2.2.2.2.2.2.2.2.2.2.2.2.2.2.2.1
theorem d_MD_turnsRound_29 : decode prog_12_method_33_code 29 = .ok (.iload 5, 2) := F_MD_turnsRound_0.2.2.2.2.2.2.2.2.2.2.2.2.2.2.2.2.2.2.2.2.2.2.1
theorem d_MD_turnsRound_31 : decode prog_12_method_33_code 31 = .ok (.iconst 1, 1) := F_MD_turnsRound_0.2.2.2.2.2.2.2.2.2.2.2.2.2.2.2.2.2.2.2.2.2.2.2.1
theorem d_MD_turnsRound_32 : decode prog_12_method_33_code 32 = .ok (.iadd, 1) := F_MD_turnsRound_0.2.2.2.2.2.2.2.2.2.2.2.2.2.2.2.2.2.2.2.2.2.2.2.2.1
theorem d_MD_turnsRound_33 : decode prog_12_method_33_code 33 = .ok (.iconst 3, 1) := F_MD_turnsRound_0.2.2.2.2.2.2.2.2.2.2.2.2.2.2.2.2.2.2.2.2.2.2.2.2.2.1
theorem d_MD_turnsRound_34 : decode prog_12_method_33_code 34 = .ok (.irem, 1) := F_MD_turnsRound_0.2.2.2.2.2.2.2.2.2.2.2.2.2.2.2.2.2.2.2.2.2.2.2.2.2.2.1
theorem d_MD_turnsRound_35 : decode prog_12_method_33_code 35 = .ok (.istore 6, 2) := F_MD_turnsRound_0.2.2.2.2.2.2.2.2.2.2.2.2.2.2.2.2.2.2.2.2.2.2.2.2.2.2.2.1
theorem d_MD_turnsRound_37 : decode prog_12_method_33_code 37 = .ok (.iload 5, 2) := F_MD_turnsRound_0.2.2.2.2.2.2.2.2.2.2.2.2.2.2.2.2.2.2.2.2.2.2.2.2.2.2.2.2.1
theorem d_MD_turnsRound_39 : decode prog_12_method_33_code 39 = .ok (.iconst 2, 1) := F_MD_turnsRound_0.2.2.2.2.2.2.2.2.2.2.2.2.2.2.2.2.2.2.2.2.2.2.2.2.2.2.2.2.2.1
theorem d_MD_turnsRound_40 : decode prog_12_method_33_code 40 = .ok (.iadd, 1) := F_MD_turnsRound_0.2.2.2.2.2.2.2.2.2.2.2.2.2.2.2.2.2.2.2.2.2.2.2.2.2.2.2.2.2.2.1
theorem d_MD_turnsRound_41 : decode prog_12_method_33_code 41 = .ok (.iconst 3, 1) := F_MD_turnsRound_0.2.2.2.2.2.2.2.2.2.2.2.2.2.2.2.2.2.2.2.2.2.2.2.2.2.2.2.2.2.2.2.1
theorem F_MD_turnsRound_42 : Jvm.Free.DS.Facts prog_12_method_33_code 42 [(.irem, 1), (.istore 7, 2), (.aload_n 0, 1), (.iconst 3, 1), (.iload 5, 2), (.imul, 1), (.iload_n 2, 1), (.iadd, 1), (.aload_n 1, 1), (.iconst 3, 1), (.iload_n 3, 1), (.imul, 1), (.iload 6, 2), (.iadd, 1), (.laload, 1), (.aload_n 1, 1), (.iconst 3, 1), (.iload 4, 2), (.imul, 1), (.iload 7, 2), (.iadd, 1), (.laload, 1), (.lmul, 1), (.aload_n 1, 1), (.iconst 3, 1), (.iload_n 3, 1), (.imul, 1), (.iload 7, 2), (.iadd, 1), (.laload, 1), (.aload_n 1, 1), (.iconst 3, 1)] := Jvm.Free.DS.facts 42 _ (by decide +kernel) (by decide +kernel)
theorem d_MD_turnsRound_42 : decode prog_12_method_33_code 42 = .ok (.irem, 1) := F_MD_turnsRound_42.1
theorem d_MD_turnsRound_43 : decode prog_12_method_33_code 43 = .ok (.istore 7, 2) := F_MD_turnsRound_42.2.1
theorem d_MD_turnsRound_45 : decode prog_12_method_33_code 45 = .ok (.aload_n 0, 1) := F_MD_turnsRound_42.2.2.1
theorem d_MD_turnsRound_46 : decode prog_12_method_33_code 46 = .ok (.iconst 3, 1) := F_MD_turnsRound_42.2.2.2.1
theorem d_MD_turnsRound_47 : decode prog_12_method_33_code 47 = .ok (.iload 5, 2) := F_MD_turnsRound_42.2.2.2.2.1
theorem d_MD_turnsRound_49 : decode prog_12_method_33_code 49 = .ok (.imul, 1) := F_MD_turnsRound_42.2.2.2.2.2.1
theorem d_MD_turnsRound_50 : decode prog_12_method_33_code 50 = .ok (.iload_n 2, 1) := F_MD_turnsRound_42.2.2.2.2.2.2.1
theorem d_MD_turnsRound_51 : decode prog_12_method_33_code 51 = .ok (.iadd, 1) := F_MD_turnsRound_42.2.2.2.2.2.2.2.1
theorem d_MD_turnsRound_52 : decode prog_12_method_33_code 52 = .ok (.aload_n 1, 1) := F_MD_turnsRound_42.2.2.2.2.2.2.2.2.1
theorem d_MD_turnsRound_53 : decode prog_12_method_33_code 53 = .ok (.iconst 3, 1) := F_MD_turnsRound_42.2.2.2.2.2.2.2.2.2.1
theorem d_MD_turnsRound_54 : decode prog_12_method_33_code 54 = .ok (.iload_n 3, 1) := F_MD_turnsRound_42.2.2.2.2.2.2.2.2.2.2.1
theorem d_MD_turnsRound_55 : decode prog_12_method_33_code 55 = .ok (.imul, 1) := F_MD_turnsRound_42.2.2.2.2.2.2.2.2.2.2.2.1
theorem d_MD_turnsRound_56 : decode prog_12_method_33_code 56 = .ok (.iload 6, 2) := F_MD_turnsRound_42.2.2.2.2.2.2.2.2.2.2.2.2.1
theorem d_MD_turnsRound_58 : decode prog_12_method_33_code 58 = .ok (.iadd, 1) := F_MD_turnsRound_42.2.2.2.2.2.2.2.2.2.2.2.2.2.1
theorem d_MD_turnsRound_59 : decode prog_12_method_33_code 59 = .ok (.laload, 1) := F_MD_turnsRound_42.2.2.2.2.2.2.2.2.2.2.2.2.2.2.1
theorem d_MD_turnsRound_60 : decode prog_12_method_33_code 60 = .ok (.aload_n 1, 1) := F_MD_turnsRound_42.2.2.2.2.2.2.2.2.2.2.2.2.2.2.2.1
theorem d_MD_turnsRound_61 : decode prog_12_method_33_code 61 = .ok (.iconst 3, 1) := F_MD_turnsRound_42.2.2.2.2.2.2.2.2.2.2.2.2.2.2.2.2.1
theorem d_MD_turnsRound_62 : decode prog_12_method_33_code 62 = .ok (.iload 4, 2) := F_MD_turnsRound_42.2.2.2.2.2.2.2.2.2.2.2.2.2.2.2.2.2.1
theorem d_MD_turnsRound_64 : decode prog_12_method_33_code 64 = .ok (.imul, 1) := F_MD_turnsRound_42.2.2.2.2.2.2.2.2.2.2.2.2.2.2.2.2.2.2.1
theorem d_MD_turnsRound_65 : decode prog_12_method_33_code 65 = .ok (.iload 7, 2) := F_MD_turnsRound_42.2.2.2.2.2.2.2.2.2.2.2.2.2.2.2.2.2.2.2.1
theorem d_MD_turnsRound_67 : decode prog_12_method_33_code 67 = .ok (.iadd, 1) := F_MD_turnsRound_42.2.2.2.2.2.2.2.2.2.2.2.2.2.2.2.2.2.2.2.2.1
theorem d_MD_turnsRound_68 : decode prog_12_method_33_code 68 = .ok (.laload, 1) := F_MD_turnsRound_42.2.2.2.2.2.2.2.2.2.2.2.2.2.2.2.2.2.2.2.2.2.1
theorem d_MD_turnsRound_69 : decode prog_12_method_33_code 69 = .ok (.lmul, 1) := F_MD_turnsRound_42.2.2.2.2.2.2.2.2.2.2.2.2.2.2.2.2.2.2.2.2.2.2.1
theorem d_MD_turnsRound_70 : decode prog_12_method_33_code 70 = .ok (.aload_n 1, 1) := F_MD_turnsRound_42.2.2.2.2.2.2.2.2.2.2.2.2.2.2.2.2.2.2.2.2.2.2.2.1
theorem d_MD_turnsRound_71 : decode prog_12_method_33_code 71 = .ok (.iconst 3, 1) := F_MD_turnsRound_42.2.2.2.2.2.2.2.2.2.2.2.2.2.2.2.2.2.2.2.2.2.2.2.2.1
theorem d_MD_turnsRound_72 : decode prog_12_method_33_code 72 = .ok (.iload_n 3, 1) := F_MD_turnsRound_42.2.2.2.2.2.2.2.2.2.2.2.2.2.2.2.2.2.2.2.2.2.2.2.2.2.1
theorem d_MD_turnsRound_73 : decode prog_12_method_33_code 73 = .ok (.imul, 1) := F_MD_turnsRound_42.2.2.2.2.2.2.2.2.2.2.2.2.2.2.2.2.2.2.2.2.2.2.2.2.2.2.1
theorem d_MD_turnsRound_74 : decode prog_12_method_33_code 74 = .ok (.iload 7, 2) := F_MD_turnsRound_42.2.2.2.2.2.2.2.2.2.2.2.2.2.2.2.2.2.2.2.2.2.2.2.2.2.2.2.1
theorem d_MD_turnsRound_76 : decode prog_12_method_33_code 76 = .ok (.iadd, 1) := F_MD_turnsRound_42.2.2.2.2.2.2.2.2.2.2.2.2.2.2.2.2.2.2.2.2.2.2.2.2.2.2.2.2.1
theorem d_MD_turnsRound_77 : decode prog_12_method_33_code 77 = .ok (.laload, 1) := F_MD_turnsRound_42.2.2.2.2.2.2.2.2.2.2.2.2.2.2.2.2.2.2.2.2.2.2.2.2.2.2.2.2.2.1
theorem d_MD_turnsRound_78 : decode prog_12_method_33_code 78 = .ok (.aload_n 1, 1) := F_MD_turnsRound_42.2.2.2.2.2.2.2.2.2.2.2.2.2.2.2.2.2.2.2.2.2.2.2.2.2.2.2.2.2.2.1
theorem d_MD_turnsRound_79 : decode prog_12_method_33_code 79 = .ok (.iconst 3, 1) := F_MD_turnsRound_42.2.2.2.2.2.2.2.2.2.2.2.2.2.2.2.2.2.2.2.2.2.2.2.2.2.2.2.2.2.2.2.1
theorem F_MD_turnsRound_80 : Jvm.Free.DS.Facts prog_12_method_33_code 80 [(.iload 4, 2), (.imul, 1), (.iload 6, 2), (.iadd, 1), (.laload, 1), (.lmul, 1), (.lsub, 1), (.lastore, 1), (.iinc 5 (1), 3), (.goto (-70), 3), (.iinc 2 (1), 3), (.goto (-97), 3), (.return_, 1)] := Jvm.Free.DS.facts 80 _ (by decide +kernel) (by decide +kernel)
theorem d_MD_turnsRound_80 : decode prog_12_method_33_code 80 = .ok (.iload 4, 2) := F_MD_turnsRound_80.1
theorem d_MD_turnsRound_82 : decode prog_12_method_33_code 82 = .ok (.imul, 1) := F_MD_turnsRound_80.2.1
theorem d_MD_turnsRound_83 : decode prog_12_method_33_code 83 = .ok (.iload 6, 2) := F_MD_turnsRound_80.2.2.1
theorem d_MD_turnsRound_85 : decode prog_12_method_33_code 85 = .ok (.iadd, 1) := F_MD_turnsRound_80.2.2.2.1
theorem d_MD_turnsRound_86 : decode prog_12_method_33_code 86 = .ok (.laload, 1) := F_MD_turnsRound_80.2.2.2.2.1
theorem d_MD_turnsRound_87 : decode prog_12_method_33_code 87 = .ok (.lmul, 1) := F_MD_turnsRound_80.2.2.2.2.2.1
theorem d_MD_turnsRound_88 : decode prog_12_method_33_code 88 = .ok (.lsub, 1) := F_MD_turnsRound_80.2.2.2.2.2.2.1
theorem d_MD_turnsRound_89 : decode prog_12_method_33_code 89 = .ok (.lastore, 1) := F_MD_turnsRound_80.2.2.2.2.2.2.2.1
theorem d_MD_turnsRound_90 : decode prog_12_method_33_code 90 = .ok (.iinc 5 (1), 3) := F_MD_turnsRound_80.2.2.2.2.2.2.2.2.1
theorem d_MD_turnsRound_93 : decode prog_12_method_33_code 93 = .ok (.goto (-70), 3) := F_MD_turnsRound_80.2.2.2.2.2.2.2.2.2.1
theorem d_MD_turnsRound_96 : decode prog_12_method_33_code 96 = .ok (.iinc 2 (1), 3) := F_MD_turnsRound_80.2.2.2.2.2.2.2.2.2.2.1
theorem d_MD_turnsRound_99 : decode prog_12_method_33_code 99 = .ok (.goto (-97), 3) := F_MD_turnsRound_80.2.2.2.2.2.2.2.2.2.2.2.1
theorem d_MD_turnsRound_102 : decode prog_12_method_33_code 102 = .ok (.return_, 1) := F_MD_turnsRound_80.2.2.2.2.2.2.2.2.2.2.2.2.1
theorem F_MD_multiplies_0 : Jvm.Free.DS.Facts prog_12_method_32_code 0 [(.iconst 0, 1), (.istore_n 3, 1), (.iload_n 3, 1), (.iconst 3, 1), (.if_icmp .ge (73), 3), (.iconst 0, 1), (.istore 4, 2), (.iload 4, 2), (.iconst 3, 1), (.if_icmp .ge (58), 3), (.aload_n 0, 1), (.iconst 3, 1), (.iload_n 3, 1), (.imul, 1), (.iload 4, 2), (.iadd, 1), (.aload_n 1, 1), (.iconst 3, 1), (.iload_n 3, 1), (.imul, 1), (.laload, 1), (.aload_n 2, 1), (.iload 4, 2), (.laload, 1), (.lmul, 1), (.aload_n 1, 1), (.iconst 3, 1), (.iload_n 3, 1), (.imul, 1), (.iconst 1, 1), (.iadd, 1), (.laload, 1)] := Jvm.Free.DS.facts 0 _ (by decide +kernel) (by decide +kernel)
theorem d_MD_multiplies_0 : decode prog_12_method_32_code 0 = .ok (.iconst 0, 1) := F_MD_multiplies_0.1
theorem d_MD_multiplies_1 : decode prog_12_method_32_code 1 = .ok (.istore_n 3, 1) := F_MD_multiplies_0.2.1
theorem d_MD_multiplies_2 : decode prog_12_method_32_code 2 = .ok (.iload_n 3, 1) := F_MD_multiplies_0.2.2.1
theorem d_MD_multiplies_3 : decode prog_12_method_32_code 3 = .ok (.iconst 3, 1) := F_MD_multiplies_0.2.2.2.1
theorem d_MD_multiplies_4 : decode prog_12_method_32_code 4 = .ok (.if_icmp .ge (73), 3) := F_MD_multiplies_0.2.2.2.2.1
theorem d_MD_multiplies_7 : decode prog_12_method_32_code 7 = .ok (.iconst 0, 1) := F_MD_multiplies_0.2.2.2.2.2.1
theorem d_MD_multiplies_8 : decode prog_12_method_32_code 8 = .ok (.istore 4, 2) := F_MD_multiplies_0.2.2.2.2.2.2.1
theorem d_MD_multiplies_10 : decode prog_12_method_32_code 10 = .ok (.iload 4, 2) := F_MD_multiplies_0.2.2.2.2.2.2.2.1
theorem d_MD_multiplies_12 : decode prog_12_method_32_code 12 = .ok (.iconst 3, 1) := F_MD_multiplies_0.2.2.2.2.2.2.2.2.1
theorem d_MD_multiplies_13 : decode prog_12_method_32_code 13 = .ok (.if_icmp .ge (58), 3) := F_MD_multiplies_0.2.2.2.2.2.2.2.2.2.1
theorem d_MD_multiplies_16 : decode prog_12_method_32_code 16 = .ok (.aload_n 0, 1) := F_MD_multiplies_0.2.2.2.2.2.2.2.2.2.2.1
theorem d_MD_multiplies_17 : decode prog_12_method_32_code 17 = .ok (.iconst 3, 1) := F_MD_multiplies_0.2.2.2.2.2.2.2.2.2.2.2.1
theorem d_MD_multiplies_18 : decode prog_12_method_32_code 18 = .ok (.iload_n 3, 1) := F_MD_multiplies_0.2.2.2.2.2.2.2.2.2.2.2.2.1
theorem d_MD_multiplies_19 : decode prog_12_method_32_code 19 = .ok (.imul, 1) := F_MD_multiplies_0.2.2.2.2.2.2.2.2.2.2.2.2.2.1
theorem d_MD_multiplies_20 : decode prog_12_method_32_code 20 = .ok (.iload 4, 2) := F_MD_multiplies_0.2.2.2.2.2.2.2.2.2.2.2.2.2.2.1
theorem d_MD_multiplies_22 : decode prog_12_method_32_code 22 = .ok (.iadd, 1) := F_MD_multiplies_0.2.2.2.2.2.2.2.2.2.2.2.2.2.2.2.1
theorem d_MD_multiplies_23 : decode prog_12_method_32_code 23 = .ok (.aload_n 1, 1) := F_MD_multiplies_0.2.2.2.2.2.2.2.2.2.2.2.2.2.2.2.2.1
theorem d_MD_multiplies_24 : decode prog_12_method_32_code 24 = .ok (.iconst 3, 1) := F_MD_multiplies_0.2.2.2.2.2.2.2.2.2.2.2.2.2.2.2.2.2.1
theorem d_MD_multiplies_25 : decode prog_12_method_32_code 25 = .ok (.iload_n 3, 1) := F_MD_multiplies_0.2.2.2.2.2.2.2.2.2.2.2.2.2.2.2.2.2.2.1
theorem d_MD_multiplies_26 : decode prog_12_method_32_code 26 = .ok (.imul, 1) := F_MD_multiplies_0.2.2.2.2.2.2.2.2.2.2.2.2.2.2.2.2.2.2.2.1
theorem d_MD_multiplies_27 : decode prog_12_method_32_code 27 = .ok (.laload, 1) := F_MD_multiplies_0.2.2.2.2.2.2.2.2.2.2.2.2.2.2.2.2.2.2.2.2.1
theorem d_MD_multiplies_28 : decode prog_12_method_32_code 28 = .ok (.aload_n 2, 1) := F_MD_multiplies_0.2.2.2.2.2.2.2.2.2.2.2.2.2.2.2.2.2.2.2.2.2.1
theorem d_MD_multiplies_29 : decode prog_12_method_32_code 29 = .ok (.iload 4, 2) := F_MD_multiplies_0.2.2.2.2.2.2.2.2.2.2.2.2.2.2.2.2.2.2.2.2.2.2.1
theorem d_MD_multiplies_31 : decode prog_12_method_32_code 31 = .ok (.laload, 1) := F_MD_multiplies_0.2.2.2.2.2.2.2.2.2.2.2.2.2.2.2.2.2.2.2.2.2.2.2.1
theorem d_MD_multiplies_32 : decode prog_12_method_32_code 32 = .ok (.lmul, 1) := F_MD_multiplies_0.2.2.2.2.2.2.2.2.2.2.2.2.2.2.2.2.2.2.2.2.2.2.2.2.1
theorem d_MD_multiplies_33 : decode prog_12_method_32_code 33 = .ok (.aload_n 1, 1) := F_MD_multiplies_0.2.2.2.2.2.2.2.2.2.2.2.2.2.2.2.2.2.2.2.2.2.2.2.2.2.1
theorem d_MD_multiplies_34 : decode prog_12_method_32_code 34 = .ok (.iconst 3, 1) := F_MD_multiplies_0.2.2.2.2.2.2.2.2.2.2.2.2.2.2.2.2.2.2.2.2.2.2.2.2.2.2.1
theorem d_MD_multiplies_35 : decode prog_12_method_32_code 35 = .ok (.iload_n 3, 1) := F_MD_multiplies_0.2.2.2.2.2.2.2.2.2.2.2.2.2.2.2.2.2.2.2.2.2.2.2.2.2.2.2.1
theorem d_MD_multiplies_36 : decode prog_12_method_32_code 36 = .ok (.imul, 1) := F_MD_multiplies_0.2.2.2.2.2.2.2.2.2.2.2.2.2.2.2.2.2.2.2.2.2.2.2.2.2.2.2.2.1
theorem d_MD_multiplies_37 : decode prog_12_method_32_code 37 = .ok (.iconst 1, 1) := F_MD_multiplies_0.2.2.2.2.2.2.2.2.2.2.2.2.2.2.2.2.2.2.2.2.2.2.2.2.2.2.2.2.2.1
theorem d_MD_multiplies_38 : decode prog_12_method_32_code 38 = .ok (.iadd, 1) := F_MD_multiplies_0.2.2.2.2.2.2.2.2.2.2.2.2.2.2.2.2.2.2.2.2.2.2.2.2.2.2.2.2.2.2.1
theorem d_MD_multiplies_39 : decode prog_12_method_32_code 39 = .ok (.laload, 1) := F_MD_multiplies_0.2.2.2.2.2.2.2.2.2.2.2.2.2.2.2.2.2.2.2.2.2.2.2.2.2.2.2.2.2.2.2.1
theorem F_MD_multiplies_40 : Jvm.Free.DS.Facts prog_12_method_32_code 40 [(.aload_n 2, 1), (.iconst 3, 1), (.iload 4, 2), (.iadd, 1), (.laload, 1), (.lmul, 1), (.ladd, 1), (.aload_n 1, 1), (.iconst 3, 1), (.iload_n 3, 1), (.imul, 1), (.iconst 2, 1), (.iadd, 1), (.laload, 1), (.aload_n 2, 1), (.bipush (6), 2), (.iload 4, 2), (.iadd, 1), (.laload, 1), (.lmul, 1), (.ladd, 1), (.lastore, 1), (.iinc 4 (1), 3), (.goto (-58), 3), (.iinc 3 (1), 3), (.goto (-72), 3), (.return_, 1)] := Jvm.Free.DS.facts 40 _ (by decide +kernel) (by decide +kernel)
theorem d_MD_multiplies_40 : decode prog_12_method_32_code 40 = .ok (.aload_n 2, 1) := F_MD_multiplies_40.1
theorem d_MD_multiplies_41 : decode prog_12_method_32_code 41 = .ok (.iconst 3, 1) := F_MD_multiplies_40.2.1
theorem d_MD_multiplies_42 : decode prog_12_method_32_code 42 = .ok (.iload 4, 2) := F_MD_multiplies_40.2.2.1
theorem d_MD_multiplies_44 : decode prog_12_method_32_code 44 = .ok (.iadd, 1) := F_MD_multiplies_40.2.2.2.1
theorem d_MD_multiplies_45 : decode prog_12_method_32_code 45 = .ok (.laload, 1) := F_MD_multiplies_40.2.2.2.2.1
theorem d_MD_multiplies_46 : decode prog_12_method_32_code 46 = .ok (.lmul, 1) := F_MD_multiplies_40.2.2.2.2.2.1
theorem d_MD_multiplies_47 : decode prog_12_method_32_code 47 = .ok (.ladd, 1) := F_MD_multiplies_40.2.2.2.2.2.2.1
theorem d_MD_multiplies_48 : decode prog_12_method_32_code 48 = .ok (.aload_n 1, 1) := F_MD_multiplies_40.2.2.2.2.2.2.2.1
theorem d_MD_multiplies_49 : decode prog_12_method_32_code 49 = .ok (.iconst 3, 1) := F_MD_multiplies_40.2.2.2.2.2.2.2.2.1
theorem d_MD_multiplies_50 : decode prog_12_method_32_code 50 = .ok (.iload_n 3, 1) := F_MD_multiplies_40.2.2.2.2.2.2.2.2.2.1
theorem d_MD_multiplies_51 : decode prog_12_method_32_code 51 = .ok (.imul, 1) := F_MD_multiplies_40.2.2.2.2.2.2.2.2.2.2.1
theorem d_MD_multiplies_52 : decode prog_12_method_32_code 52 = .ok (.iconst 2, 1) := F_MD_multiplies_40.2.2.2.2.2.2.2.2.2.2.2.1
theorem d_MD_multiplies_53 : decode prog_12_method_32_code 53 = .ok (.iadd, 1) := F_MD_multiplies_40.2.2.2.2.2.2.2.2.2.2.2.2.1
theorem d_MD_multiplies_54 : decode prog_12_method_32_code 54 = .ok (.laload, 1) := F_MD_multiplies_40.2.2.2.2.2.2.2.2.2.2.2.2.2.1
theorem d_MD_multiplies_55 : decode prog_12_method_32_code 55 = .ok (.aload_n 2, 1) := F_MD_multiplies_40.2.2.2.2.2.2.2.2.2.2.2.2.2.2.1
theorem d_MD_multiplies_56 : decode prog_12_method_32_code 56 = .ok (.bipush (6), 2) := F_MD_multiplies_40.2.2.2.2.2.2.2.2.2.2.2.2.2.2.2.1
theorem d_MD_multiplies_58 : decode prog_12_method_32_code 58 = .ok (.iload 4, 2) := F_MD_multiplies_40.2.2.2.2.2.2.2.2.2.2.2.2.2.2.2.2.1
theorem d_MD_multiplies_60 : decode prog_12_method_32_code 60 = .ok (.iadd, 1) := F_MD_multiplies_40.2.2.2.2.2.2.2.2.2.2.2.2.2.2.2.2.2.1
theorem d_MD_multiplies_61 : decode prog_12_method_32_code 61 = .ok (.laload, 1) := F_MD_multiplies_40.2.2.2.2.2.2.2.2.2.2.2.2.2.2.2.2.2.2.1
theorem d_MD_multiplies_62 : decode prog_12_method_32_code 62 = .ok (.lmul, 1) := F_MD_multiplies_40.2.2.2.2.2.2.2.2.2.2.2.2.2.2.2.2.2.2.2.1
theorem d_MD_multiplies_63 : decode prog_12_method_32_code 63 = .ok (.ladd, 1) := F_MD_multiplies_40.2.2.2.2.2.2.2.2.2.2.2.2.2.2.2.2.2.2.2.2.1
theorem d_MD_multiplies_64 : decode prog_12_method_32_code 64 = .ok (.lastore, 1) := F_MD_multiplies_40.2.2.2.2.2.2.2.2.2.2.2.2.2.2.2.2.2.2.2.2.2.1
theorem d_MD_multiplies_65 : decode prog_12_method_32_code 65 = .ok (.iinc 4 (1), 3) := F_MD_multiplies_40.2.2.2.2.2.2.2.2.2.2.2.2.2.2.2.2.2.2.2.2.2.2.1
theorem d_MD_multiplies_68 : decode prog_12_method_32_code 68 = .ok (.goto (-58), 3) := F_MD_multiplies_40.2.2.2.2.2.2.2.2.2.2.2.2.2.2.2.2.2.2.2.2.2.2.2.1
theorem d_MD_multiplies_71 : decode prog_12_method_32_code 71 = .ok (.iinc 3 (1), 3) := F_MD_multiplies_40.2.2.2.2.2.2.2.2.2.2.2.2.2.2.2.2.2.2.2.2.2.2.2.2.1
theorem d_MD_multiplies_74 : decode prog_12_method_32_code 74 = .ok (.goto (-72), 3) := F_MD_multiplies_40.2.2.2.2.2.2.2.2.2.2.2.2.2.2.2.2.2.2.2.2.2.2.2.2.2.1
theorem d_MD_multiplies_77 : decode prog_12_method_32_code 77 = .ok (.return_, 1) := F_MD_multiplies_40.2.2.2.2.2.2.2.2.2.2.2.2.2.2.2.2.2.2.2.2.2.2.2.2.2.2.1
theorem F_MD_isLarge_0 : Jvm.Free.DS.Facts prog_12_method_26_code 0 [(.iconst 0, 1), (.istore_n 1, 1), (.iload_n 1, 1), (.bipush (9), 2), (.if_icmp .ge (27), 3), (.aload_n 0, 1), (.getfield 41, 3), (.iload_n 1, 1), (.laload, 1), (.invokestatic 210, 3), (.ldc2_w 224, 3), (.lcmp, 1), (.ifCond .le (5), 3), (.iconst 1, 1), (.ireturn, 1), (.iinc 1 (1), 3), (.goto (-27), 3), (.iconst 0, 1), (.ireturn, 1)] := Jvm.Free.DS.facts 0 _ (by decide +kernel) (by decide +kernel)
theorem d_MD_isLarge_0 : decode prog_12_method_26_code 0 = .ok (.iconst 0, 1) := F_MD_isLarge_0.1
theorem d_MD_isLarge_1 : decode prog_12_method_26_code 1 = .ok (.istore_n 1, 1) := F_MD_isLarge_0.2.1
theorem d_MD_isLarge_2 : decode prog_12_method_26_code 2 = .ok (.iload_n 1, 1) := F_MD_isLarge_0.2.2.1
theorem d_MD_isLarge_3 : decode prog_12_method_26_code 3 = .ok (.bipush (9), 2) := F_MD_isLarge_0.2.2.2.1
theorem d_MD_isLarge_5 : decode prog_12_method_26_code 5 = .ok (.if_icmp .ge (27), 3) := F_MD_isLarge_0.2.2.2.2.1
theorem d_MD_isLarge_8 : decode prog_12_method_26_code 8 = .ok (.aload_n 0, 1) := F_MD_isLarge_0.2.2.2.2.2.1
theorem d_MD_isLarge_9 : decode prog_12_method_26_code 9 = .ok (.getfield 41, 3) := F_MD_isLarge_0.2.2.2.2.2.2.1
theorem d_MD_isLarge_12 : decode prog_12_method_26_code 12 = .ok (.iload_n 1, 1) := F_MD_isLarge_0.2.2.2.2.2.2.2.1
theorem d_MD_isLarge_13 : decode prog_12_method_26_code 13 = .ok (.laload, 1) := F_MD_isLarge_0.2.2.2.2.2.2.2.2.1
theorem d_MD_isLarge_14 : decode prog_12_method_26_code 14 = .ok (.invokestatic 210, 3) := F_MD_isLarge_0.2.2.2.2.2.2.2.2.2.1
theorem d_MD_isLarge_17 : decode prog_12_method_26_code 17 = .ok (.ldc2_w 224, 3) := F_MD_isLarge_0.2.2.2.2.2.2.2.2.2.2.1
theorem d_MD_isLarge_20 : decode prog_12_method_26_code 20 = .ok (.lcmp, 1) := F_MD_isLarge_0.2.2.2.2.2.2.2.2.2.2.2.1
theorem d_MD_isLarge_21 : decode prog_12_method_26_code 21 = .ok (.ifCond .le (5), 3) := F_MD_isLarge_0.2.2.2.2.2.2.2.2.2.2.2.2.1
theorem d_MD_isLarge_24 : decode prog_12_method_26_code 24 = .ok (.iconst 1, 1) := F_MD_isLarge_0.2.2.2.2.2.2.2.2.2.2.2.2.2.1
theorem d_MD_isLarge_25 : decode prog_12_method_26_code 25 = .ok (.ireturn, 1) := F_MD_isLarge_0.2.2.2.2.2.2.2.2.2.2.2.2.2.2.1
theorem d_MD_isLarge_26 : decode prog_12_method_26_code 26 = .ok (.iinc 1 (1), 3) := F_MD_isLarge_0.2.2.2.2.2.2.2.2.2.2.2.2.2.2.2.1
theorem d_MD_isLarge_29 : decode prog_12_method_26_code 29 = .ok (.goto (-27), 3) := F_MD_isLarge_0.2.2.2.2.2.2.2.2.2.2.2.2.2.2.2.2.1
theorem d_MD_isLarge_32 : decode prog_12_method_26_code 32 = .ok (.iconst 0, 1) := F_MD_isLarge_0.2.2.2.2.2.2.2.2.2.2.2.2.2.2.2.2.2.1
theorem d_MD_isLarge_33 : decode prog_12_method_26_code 33 = .ok (.ireturn, 1) := F_MD_isLarge_0.2.2.2.2.2.2.2.2.2.2.2.2.2.2.2.2.2.2.1
theorem F_MD_puts_0 : Jvm.Free.DS.Facts prog_12_method_27_code 0 [(.iconst 0, 1), (.istore_n 3, 1), (.iload_n 3, 1), (.bipush (9), 2), (.if_icmp .ge (23), 3), (.aload_n 1, 1), (.bipush (9), 2), (.iload_n 2, 1), (.imul, 1), (.iload_n 3, 1), (.iadd, 1), (.aload_n 0, 1), (.getfield 41, 3), (.iload_n 3, 1), (.laload, 1), (.lastore, 1), (.iinc 3 (1), 3), (.goto (-23), 3), (.return_, 1)] := Jvm.Free.DS.facts 0 _ (by decide +kernel) (by decide +kernel)
theorem d_MD_puts_0 : decode prog_12_method_27_code 0 = .ok (.iconst 0, 1) := F_MD_puts_0.1
theorem d_MD_puts_1 : decode prog_12_method_27_code 1 = .ok (.istore_n 3, 1) := F_MD_puts_0.2.1
theorem d_MD_puts_2 : decode prog_12_method_27_code 2 = .ok (.iload_n 3, 1) := F_MD_puts_0.2.2.1
theorem d_MD_puts_3 : decode prog_12_method_27_code 3 = .ok (.bipush (9), 2) := F_MD_puts_0.2.2.2.1
theorem d_MD_puts_5 : decode prog_12_method_27_code 5 = .ok (.if_icmp .ge (23), 3) := F_MD_puts_0.2.2.2.2.1
theorem d_MD_puts_8 : decode prog_12_method_27_code 8 = .ok (.aload_n 1, 1) := F_MD_puts_0.2.2.2.2.2.1
theorem d_MD_puts_9 : decode prog_12_method_27_code 9 = .ok (.bipush (9), 2) := F_MD_puts_0.2.2.2.2.2.2.1
theorem d_MD_puts_11 : decode prog_12_method_27_code 11 = .ok (.iload_n 2, 1) := F_MD_puts_0.2.2.2.2.2.2.2.1
theorem d_MD_puts_12 : decode prog_12_method_27_code 12 = .ok (.imul, 1) := F_MD_puts_0.2.2.2.2.2.2.2.2.1
theorem d_MD_puts_13 : decode prog_12_method_27_code 13 = .ok (.iload_n 3, 1) := F_MD_puts_0.2.2.2.2.2.2.2.2.2.1
theorem d_MD_puts_14 : decode prog_12_method_27_code 14 = .ok (.iadd, 1) := F_MD_puts_0.2.2.2.2.2.2.2.2.2.2.1
theorem d_MD_puts_15 : decode prog_12_method_27_code 15 = .ok (.aload_n 0, 1) := F_MD_puts_0.2.2.2.2.2.2.2.2.2.2.2.1
theorem d_MD_puts_16 : decode prog_12_method_27_code 16 = .ok (.getfield 41, 3) := F_MD_puts_0.2.2.2.2.2.2.2.2.2.2.2.2.1
theorem d_MD_puts_19 : decode prog_12_method_27_code 19 = .ok (.iload_n 3, 1) := F_MD_puts_0.2.2.2.2.2.2.2.2.2.2.2.2.2.1
theorem d_MD_puts_20 : decode prog_12_method_27_code 20 = .ok (.laload, 1) := F_MD_puts_0.2.2.2.2.2.2.2.2.2.2.2.2.2.2.1
theorem d_MD_puts_21 : decode prog_12_method_27_code 21 = .ok (.lastore, 1) := F_MD_puts_0.2.2.2.2.2.2.2.2.2.2.2.2.2.2.2.1
theorem d_MD_puts_22 : decode prog_12_method_27_code 22 = .ok (.iinc 3 (1), 3) := F_MD_puts_0.2.2.2.2.2.2.2.2.2.2.2.2.2.2.2.2.1
theorem d_MD_puts_25 : decode prog_12_method_27_code 25 = .ok (.goto (-23), 3) := F_MD_puts_0.2.2.2.2.2.2.2.2.2.2.2.2.2.2.2.2.2.1
theorem d_MD_puts_28 : decode prog_12_method_27_code 28 = .ok (.return_, 1) := F_MD_puts_0.2.2.2.2.2.2.2.2.2.2.2.2.2.2.2.2.2.2.1
theorem F_MD_readPoint_0 : Jvm.Free.DS.Facts prog_12_method_19_code 0 [(.aload_n 0, 1), (.getfield 25, 3), (.sipush (169), 3), (.laload, 1), (.l2i, 1), (.istore_n 1, 1), (.iload_n 1, 1), (.bipush (8), 2), (.if_icmp .ne (8), 3), (.aload_n 0, 1), (.iconst 2, 1), (.invokevirtual 140, 3), (.aload_n 0, 1), (.invokevirtual 137, 3), (.aload_n 0, 1), (.sipush (9999), 3), (.invokevirtual 154, 3), (.istore_n 2, 1), (.aload_n 0, 1), (.sipush (9999), 3), (.invokevirtual 154, 3), (.istore_n 3, 1), (.aload_n 0, 1), (.sipush (9999), 3), (.invokevirtual 154, 3), (.istore 4, 2), (.aload_n 0, 1), (.invokevirtual 158, 3), (.ifCond .ne (4), 3), (.return_, 1), (.iload_n 2, 1), (.ifCond .ne (17), 3)] := Jvm.Free.DS.facts 0 _ (by decide +kernel) (by decide +kernel)
theorem d_MD_readPoint_0 : decode prog_12_method_19_code 0 = .ok (.aload_n 0, 1) := F_MD_readPoint_0.1
theorem d_MD_readPoint_1 : decode prog_12_method_19_code 1 = .ok (.getfield 25, 3) := F_MD_readPoint_0.2.1
theorem d_MD_readPoint_4 : decode prog_12_method_19_code 4 = .ok (.sipush (169), 3) := F_MD_readPoint_0.2.2.1
theorem d_MD_readPoint_7 : decode prog_12_method_19_code 7 = .ok (.laload, 1) := F_MD_readPoint_0.2.2.2.1
theorem d_MD_readPoint_8 : decode prog_12_method_19_code 8 = .ok (.l2i, 1) := F_MD_readPoint_0.2.2.2.2.1
theorem d_MD_readPoint_9 : decode prog_12_method_19_code 9 = .ok (.istore_n 1, 1) := F_MD_readPoint_0.2.2.2.2.2.1
theorem d_MD_readPoint_10 : decode prog_12_method_19_code 10 = .ok (.iload_n 1, 1) := F_MD_readPoint_0.2.2.2.2.2.2.1
theorem d_MD_readPoint_11 : decode prog_12_method_19_code 11 = .ok (.bipush (8), 2) := F_MD_readPoint_0.2.2.2.2.2.2.2.1
theorem d_MD_readPoint_13 : decode prog_12_method_19_code 13 = .ok (.if_icmp .ne (8), 3) := F_MD_readPoint_0.2.2.2.2.2.2.2.2.1
theorem d_MD_readPoint_16 : decode prog_12_method_19_code 16 = .ok (.aload_n 0, 1) := F_MD_readPoint_0.2.2.2.2.2.2.2.2.2.1
theorem d_MD_readPoint_17 : decode prog_12_method_19_code 17 = .ok (.iconst 2, 1) := F_MD_readPoint_0.2.2.2.2.2.2.2.2.2.2.1
theorem d_MD_readPoint_18 : decode prog_12_method_19_code 18 = .ok (.invokevirtual 140, 3) := F_MD_readPoint_0.2.2.2.2.2.2.2.2.2.2.2.1
theorem d_MD_readPoint_21 : decode prog_12_method_19_code 21 = .ok (.aload_n 0, 1) := F_MD_readPoint_0.2.2.2.2.2.2.2.2.2.2.2.2.1
theorem d_MD_readPoint_22 : decode prog_12_method_19_code 22 = .ok (.invokevirtual 137, 3) := F_MD_readPoint_0.2.2.2.2.2.2.2.2.2.2.2.2.2.1
theorem d_MD_readPoint_25 : decode prog_12_method_19_code 25 = .ok (.aload_n 0, 1) := F_MD_readPoint_0.2.2.2.2.2.2.2.2.2.2.2.2.2.2.1
theorem d_MD_readPoint_26 : decode prog_12_method_19_code 26 = .ok (.sipush (9999), 3) := F_MD_readPoint_0.2.2.2.2.2.2.2.2.2.2.2.2.2.2.2.1
theorem d_MD_readPoint_29 : decode prog_12_method_19_code 29 = .ok (.invokevirtual 154, 3) := F_MD_readPoint_0.2.2.2.2.2.2.2.2.2.2.2.2.2.2.2.2.1
theorem d_MD_readPoint_32 : decode prog_12_method_19_code 32 = .ok (.istore_n 2, 1) := F_MD_readPoint_0.2.2.2.2.2.2.2.2.2.2.2.2.2.2.2.2.2.1
theorem d_MD_readPoint_33 : decode prog_12_method_19_code 33 = .ok (.aload_n 0, 1) := F_MD_readPoint_0.2.2.2.2.2.2.2.2.2.2.2.2.2.2.2.2.2.2.1
theorem d_MD_readPoint_34 : decode prog_12_method_19_code 34 = .ok (.sipush (9999), 3) := F_MD_readPoint_0.2.2.2.2.2.2.2.2.2.2.2.2.2.2.2.2.2.2.2.1
theorem d_MD_readPoint_37 : decode prog_12_method_19_code 37 = .ok (.invokevirtual 154, 3) := F_MD_readPoint_0.2.2.2.2.2.2.2.2.2.2.2.2.2.2.2.2.2.2.2.2.1
theorem d_MD_readPoint_40 : decode prog_12_method_19_code 40 = .ok (.istore_n 3, 1) := F_MD_readPoint_0.2.2.2.2.2.2.2.2.2.2.2.2.2.2.2.2.2.2.2.2.2.1
theorem d_MD_readPoint_41 : decode prog_12_method_19_code 41 = .ok (.aload_n 0, 1) := F_MD_readPoint_0.2.2.2.2.2.2.2.2.2.2.2.2.2.2.2.2.2.2.2.2.2.2.1
theorem d_MD_readPoint_42 : decode prog_12_method_19_code 42 = .ok (.sipush (9999), 3) := F_MD_readPoint_0.2.2.2.2.2.2.2.2.2.2.2.2.2.2.2.2.2.2.2.2.2.2.2.1
theorem d_MD_readPoint_45 : decode prog_12_method_19_code 45 = .ok (.invokevirtual 154, 3) := F_MD_readPoint_0.2.2.2.2.2.2.2.2.2.2.2.2.2.2.2.2.2.2.2.2.2.2.2.2.1
theorem d_MD_readPoint_48 : decode prog_12_method_19_code 48 = .ok (.istore 4, 2) := F_MD_readPoint_0.2.2.2.2.2.2.2.2.2.2.2.2.2.2.2.2.2.2.2.2.2.2.2.2.2.1
theorem d_MD_readPoint_50 : decode prog_12_method_19_code 50 = .ok (.aload_n 0, 1) := F_MD_readPoint_0.2.2.2.2.2.2.2.2.2.2.2.2.2.2.2.2.2.2.2.2.2.2.2.2.2.2.1
theorem d_MD_readPoint_51 : decode prog_12_method_19_code 51 = .ok (.invokevirtual 158, 3) := F_MD_readPoint_0.2.2.2.2.2.2.2.2.2.2.2.2.2.2.2.2.2.2.2.2.2.2.2.2.2.2.2.1
theorem d_MD_readPoint_54 : decode prog_12_method_19_code 54 = .ok (.ifCond .ne (4), 3) := F_MD_readPoint_0.2.2.2.2.2.2.2.2.2.2.2.2.2.2.2.2.2.2.2.2.2.2.2.2.2.2.2.2.1
theorem d_MD_readPoint_57 : decode prog_12_method_19_code 57 = .ok (.return_, 1) := F_MD_readPoint_0.2.2.2.2.2.2.2.2.2.2.2.2.2.2.2.2.2.2.2.2.2.2.2.2.2.2.2.2.2.1
theorem d_MD_readPoint_58 : decode prog_12_method_19_code 58 = .ok (.iload_n 2, 1) := F_MD_readPoint_0.2.2.2.2.2.2.2.2.2.2.2.2.2.2.2.2.2.2.2.2.2.2.2.2.2.2.2.2.2.2.1
theorem d_MD_readPoint_59 : decode prog_12_method_19_code 59 = .ok (.ifCond .ne (17), 3) := F_MD_readPoint_0.2.2.2.2.2.2.2.2.2.2.2.2.2.2.2.2.2.2.2.2.2.2.2.2.2.2.2.2.2.2.2.1
theorem F_MD_readPoint_62 : Jvm.Free.DS.Facts prog_12_method_19_code 62 [(.iload_n 3, 1), (.ifCond .ne (13), 3), (.iload 4, 2), (.ifCond .ne (8), 3), (.aload_n 0, 1), (.iconst 4, 1), (.invokevirtual 140, 3), (.aload_n 0, 1), (.getfield 124, 3), (.ifCond .eq (4), 3), (.return_, 1), (.aload_n 0, 1), (.iload_n 2, 1), (.i2l, 1), (.iload_n 3, 1), (.i2l, 1), (.iload 4, 2), (.i2l, 1), (.invokevirtual 179, 3), (.aload_n 0, 1), (.aload_n 0, 1), (.getfield 25, 3), (.iload_n 1, 1), (.invokevirtual 183, 3), (.aload_n 0, 1), (.getfield 25, 3), (.sipush (169), 3), (.dup2, 1), (.laload, 1), (.lconst 1, 1), (.ladd, 1), (.lastore, 1)] := Jvm.Free.DS.facts 62 _ (by decide +kernel) (by decide +kernel)
theorem d_MD_readPoint_62 : decode prog_12_method_19_code 62 = .ok (.iload_n 3, 1) := F_MD_readPoint_62.1
theorem d_MD_readPoint_63 : decode prog_12_method_19_code 63 = .ok (.ifCond .ne (13), 3) := F_MD_readPoint_62.2.1
theorem d_MD_readPoint_66 : decode prog_12_method_19_code 66 = .ok (.iload 4, 2) := F_MD_readPoint_62.2.2.1
theorem d_MD_readPoint_68 : decode prog_12_method_19_code 68 = .ok (.ifCond .ne (8), 3) := F_MD_readPoint_62.2.2.2.1
theorem d_MD_readPoint_71 : decode prog_12_method_19_code 71 = .ok (.aload_n 0, 1) := F_MD_readPoint_62.2.2.2.2.1
theorem d_MD_readPoint_72 : decode prog_12_method_19_code 72 = .ok (.iconst 4, 1) := F_MD_readPoint_62.2.2.2.2.2.1
theorem d_MD_readPoint_73 : decode prog_12_method_19_code 73 = .ok (.invokevirtual 140, 3) := F_MD_readPoint_62.2.2.2.2.2.2.1
theorem d_MD_readPoint_76 : decode prog_12_method_19_code 76 = .ok (.aload_n 0, 1) := F_MD_readPoint_62.2.2.2.2.2.2.2.1
theorem d_MD_readPoint_77 : decode prog_12_method_19_code 77 = .ok (.getfield 124, 3) := F_MD_readPoint_62.2.2.2.2.2.2.2.2.1
theorem d_MD_readPoint_80 : decode prog_12_method_19_code 80 = .ok (.ifCond .eq (4), 3) := F_MD_readPoint_62.2.2.2.2.2.2.2.2.2.1
theorem d_MD_readPoint_83 : decode prog_12_method_19_code 83 = .ok (.return_, 1) := F_MD_readPoint_62.2.2.2.2.2.2.2.2.2.2.1
theorem d_MD_readPoint_84 : decode prog_12_method_19_code 84 = .ok (.aload_n 0, 1) := F_MD_readPoint_62.2.2.2.2.2.2.2.2.2.2.2.1
theorem d_MD_readPoint_85 : decode prog_12_method_19_code 85 = .ok (.iload_n 2, 1) := F_MD_readPoint_62.2.2.2.2.2.2.2.2.2.2.2.2.1
theorem d_MD_readPoint_86 : decode prog_12_method_19_code 86 = .ok (.i2l, 1) := F_MD_readPoint_62.2.2.2.2.2.2.2.2.2.2.2.2.2.1
theorem d_MD_readPoint_87 : decode prog_12_method_19_code 87 = .ok (.iload_n 3, 1) := F_MD_readPoint_62.2.2.2.2.2.2.2.2.2.2.2.2.2.2.1
theorem d_MD_readPoint_88 : decode prog_12_method_19_code 88 = .ok (.i2l, 1) := F_MD_readPoint_62.2.2.2.2.2.2.2.2.2.2.2.2.2.2.2.1
theorem d_MD_readPoint_89 : decode prog_12_method_19_code 89 = .ok (.iload 4, 2) := F_MD_readPoint_62.2.2.2.2.2.2.2.2.2.2.2.2.2.2.2.2.1
theorem d_MD_readPoint_91 : decode prog_12_method_19_code 91 = .ok (.i2l, 1) := F_MD_readPoint_62.2.2.2.2.2.2.2.2.2.2.2.2.2.2.2.2.2.1
theorem d_MD_readPoint_92 : decode prog_12_method_19_code 92 = .ok (.invokevirtual 179, 3) := F_MD_readPoint_62.2.2.2.2.2.2.2.2.2.2.2.2.2.2.2.2.2.2.1
theorem d_MD_readPoint_95 : decode prog_12_method_19_code 95 = .ok (.aload_n 0, 1) := F_MD_readPoint_62.2.2.2.2.2.2.2.2.2.2.2.2.2.2.2.2.2.2.2.1
theorem d_MD_readPoint_96 : decode prog_12_method_19_code 96 = .ok (.aload_n 0, 1) := F_MD_readPoint_62.2.2.2.2.2.2.2.2.2.2.2.2.2.2.2.2.2.2.2.2.1
theorem d_MD_readPoint_97 : decode prog_12_method_19_code 97 = .ok (.getfield 25, 3) := F_MD_readPoint_62.2.2.2.2.2.2.2.2.2.2.2.2.2.2.2.2.2.2.2.2.2.1
theorem d_MD_readPoint_100 : decode prog_12_method_19_code 100 = .ok (.iload_n 1, 1) := F_MD_readPoint_62.2.2.2.2.2.2.2.2.2.2.2.2.2.2.2.2.2.2.2.2.2.2.1
theorem d_MD_readPoint_101 : decode prog_12_method_19_code 101 = .ok (.invokevirtual 183, 3) := F_MD_readPoint_62.2.2.2.2.2.2.2.2.2.2.2.2.2.2.2.2.2.2.2.2.2.2.2.1
theorem d_MD_readPoint_104 : decode prog_12_method_19_code 104 = .ok (.aload_n 0, 1) := F_MD_readPoint_62.2.2.2.2.2.2.2.2.2.2.2.2.2.2.2.2.2.2.2.2.2.2.2.2.1
theorem d_MD_readPoint_105 : decode prog_12_method_19_code 105 = .ok (.getfield 25, 3) := F_MD_readPoint_62.2.2.2.2.2.2.2.2.2.2.2.2.2.2.2.2.2.2.2.2.2.2.2.2.2.1
theorem d_MD_readPoint_108 : decode prog_12_method_19_code 108 = .ok (.sipush (169), 3) := F_MD_readPoint_62.2.2.2.2.2.2.2.2.2.2.2.2.2.2.2.2.2.2.2.2.2.2.2.2.2.2.1
theorem d_MD_readPoint_111 : decode prog_12_method_19_code 111 = .ok (.dup2, 1) := F_MD_readPoint_62.2.2.2.2.2.2.2.2.2.2.2.2.2.2.2.2.2.2.2.2.2.2.2.2.2.2.2.1
theorem d_MD_readPoint_112 : decode prog_12_method_19_code 112 = .ok (.laload, 1) := F_MD_readPoint_62.2.2.2.2.2.2.2.2.2.2.2.2.2.2.2.2.2.2.2.2.2.2.2.2.2.2.2.2.1
theorem d_MD_readPoint_113 : decode prog_12_method_19_code 113 = .ok (.lconst 1, 1) := F_MD_readPoint_62.2.2.2.2.2.2.2.2.2.2.2.2.2.2.2.2.2.2.2.2.2.2.2.2.2.2.2.2.2.1
theorem d_MD_readPoint_114 : decode prog_12_method_19_code 114 = .ok (.ladd, 1) := F_MD_readPoint_62.2.2.2.2.2.2.2.2.2.2.2.2.2.2.2.2.2.2.2.2.2.2.2.2.2.2.2.2.2.2.1
theorem d_MD_readPoint_115 : decode prog_12_method_19_code 115 = .ok (.lastore, 1) := F_MD_readPoint_62.2.2.2.2.2.2.2.2.2.2.2.2.2.2.2.2.2.2.2.2.2.2.2.2.2.2.2.2.2.2.2.1
theorem F_MD_readPoint_116 : Jvm.Free.DS.Facts prog_12_method_19_code 116 [(.return_, 1)] := Jvm.Free.DS.facts 116 _ (by decide +kernel) (by decide +kernel)
theorem d_MD_readPoint_116 : decode prog_12_method_19_code 116 = .ok (.return_, 1) := F_MD_readPoint_116.1
theorem F_MD_laysThree_0 : Jvm.Free.DS.Facts prog_12_method_25_code 0 [(.aload_n 0, 1), (.getfield 50, 3), (.iconst 0, 1), (.lload_n 1, 1), (.lastore, 1), (.aload_n 0, 1), (.getfield 50, 3), (.iconst 1, 1), (.lload_n 3, 1), (.lastore, 1), (.aload_n 0, 1), (.getfield 50, 3), (.iconst 2, 1), (.lload 5, 2), (.lastore, 1), (.aload_n 0, 1), (.getfield 50, 3), (.invokestatic 220, 3), (.return_, 1)] := Jvm.Free.DS.facts 0 _ (by decide +kernel) (by decide +kernel)
theorem d_MD_laysThree_0 : decode prog_12_method_25_code 0 = .ok (.aload_n 0, 1) := F_MD_laysThree_0.1
theorem d_MD_laysThree_1 : decode prog_12_method_25_code 1 = .ok (.getfield 50, 3) := F_MD_laysThree_0.2.1
theorem d_MD_laysThree_4 : decode prog_12_method_25_code 4 = .ok (.iconst 0, 1) := F_MD_laysThree_0.2.2.1
theorem d_MD_laysThree_5 : decode prog_12_method_25_code 5 = .ok (.lload_n 1, 1) := F_MD_laysThree_0.2.2.2.1
theorem d_MD_laysThree_6 : decode prog_12_method_25_code 6 = .ok (.lastore, 1) := F_MD_laysThree_0.2.2.2.2.1
theorem d_MD_laysThree_7 : decode prog_12_method_25_code 7 = .ok (.aload_n 0, 1) := F_MD_laysThree_0.2.2.2.2.2.1
theorem d_MD_laysThree_8 : decode prog_12_method_25_code 8 = .ok (.getfield 50, 3) := F_MD_laysThree_0.2.2.2.2.2.2.1
theorem d_MD_laysThree_11 : decode prog_12_method_25_code 11 = .ok (.iconst 1, 1) := F_MD_laysThree_0.2.2.2.2.2.2.2.1
theorem d_MD_laysThree_12 : decode prog_12_method_25_code 12 = .ok (.lload_n 3, 1) := F_MD_laysThree_0.2.2.2.2.2.2.2.2.1
theorem d_MD_laysThree_13 : decode prog_12_method_25_code 13 = .ok (.lastore, 1) := F_MD_laysThree_0.2.2.2.2.2.2.2.2.2.1
theorem d_MD_laysThree_14 : decode prog_12_method_25_code 14 = .ok (.aload_n 0, 1) := F_MD_laysThree_0.2.2.2.2.2.2.2.2.2.2.1
theorem d_MD_laysThree_15 : decode prog_12_method_25_code 15 = .ok (.getfield 50, 3) := F_MD_laysThree_0.2.2.2.2.2.2.2.2.2.2.2.1
theorem d_MD_laysThree_18 : decode prog_12_method_25_code 18 = .ok (.iconst 2, 1) := F_MD_laysThree_0.2.2.2.2.2.2.2.2.2.2.2.2.1
theorem d_MD_laysThree_19 : decode prog_12_method_25_code 19 = .ok (.lload 5, 2) := F_MD_laysThree_0.2.2.2.2.2.2.2.2.2.2.2.2.2.1
theorem d_MD_laysThree_21 : decode prog_12_method_25_code 21 = .ok (.lastore, 1) := F_MD_laysThree_0.2.2.2.2.2.2.2.2.2.2.2.2.2.2.1
theorem d_MD_laysThree_22 : decode prog_12_method_25_code 22 = .ok (.aload_n 0, 1) := F_MD_laysThree_0.2.2.2.2.2.2.2.2.2.2.2.2.2.2.2.1
theorem d_MD_laysThree_23 : decode prog_12_method_25_code 23 = .ok (.getfield 50, 3) := F_MD_laysThree_0.2.2.2.2.2.2.2.2.2.2.2.2.2.2.2.2.1
theorem d_MD_laysThree_26 : decode prog_12_method_25_code 26 = .ok (.invokestatic 220, 3) := F_MD_laysThree_0.2.2.2.2.2.2.2.2.2.2.2.2.2.2.2.2.2.1
theorem d_MD_laysThree_29 : decode prog_12_method_25_code 29 = .ok (.return_, 1) := F_MD_laysThree_0.2.2.2.2.2.2.2.2.2.2.2.2.2.2.2.2.2.2.1
theorem F_MD_putsPoint_0 : Jvm.Free.DS.Facts prog_12_method_28_code 0 [(.iconst 0, 1), (.istore_n 3, 1), (.iload_n 3, 1), (.iconst 3, 1), (.if_icmp .ge (26), 3), (.aload_n 1, 1), (.sipush (144), 3), (.iconst 3, 1), (.iload_n 2, 1), (.imul, 1), (.iadd, 1), (.iload_n 3, 1), (.iadd, 1), (.aload_n 0, 1), (.getfield 50, 3), (.iload_n 3, 1), (.laload, 1), (.lastore, 1), (.iinc 3 (1), 3), (.goto (-25), 3), (.return_, 1)] := Jvm.Free.DS.facts 0 _ (by decide +kernel) (by decide +kernel)
theorem d_MD_putsPoint_0 : decode prog_12_method_28_code 0 = .ok (.iconst 0, 1) := F_MD_putsPoint_0.1
theorem d_MD_putsPoint_1 : decode prog_12_method_28_code 1 = .ok (.istore_n 3, 1) := F_MD_putsPoint_0.2.1
theorem d_MD_putsPoint_2 : decode prog_12_method_28_code 2 = .ok (.iload_n 3, 1) := F_MD_putsPoint_0.2.2.1
theorem d_MD_putsPoint_3 : decode prog_12_method_28_code 3 = .ok (.iconst 3, 1) := F_MD_putsPoint_0.2.2.2.1
theorem d_MD_putsPoint_4 : decode prog_12_method_28_code 4 = .ok (.if_icmp .ge (26), 3) := F_MD_putsPoint_0.2.2.2.2.1
theorem d_MD_putsPoint_7 : decode prog_12_method_28_code 7 = .ok (.aload_n 1, 1) := F_MD_putsPoint_0.2.2.2.2.2.1
theorem d_MD_putsPoint_8 : decode prog_12_method_28_code 8 = .ok (.sipush (144), 3) := F_MD_putsPoint_0.2.2.2.2.2.2.1
theorem d_MD_putsPoint_11 : decode prog_12_method_28_code 11 = .ok (.iconst 3, 1) := F_MD_putsPoint_0.2.2.2.2.2.2.2.1
theorem d_MD_putsPoint_12 : decode prog_12_method_28_code 12 = .ok (.iload_n 2, 1) := F_MD_putsPoint_0.2.2.2.2.2.2.2.2.1
theorem d_MD_putsPoint_13 : decode prog_12_method_28_code 13 = .ok (.imul, 1) := F_MD_putsPoint_0.2.2.2.2.2.2.2.2.2.1
theorem d_MD_putsPoint_14 : decode prog_12_method_28_code 14 = .ok (.iadd, 1) := F_MD_putsPoint_0.2.2.2.2.2.2.2.2.2.2.1
theorem d_MD_putsPoint_15 : decode prog_12_method_28_code 15 = .ok (.iload_n 3, 1) := F_MD_putsPoint_0.2.2.2.2.2.2.2.2.2.2.2.1
theorem d_MD_putsPoint_16 : decode prog_12_method_28_code 16 = .ok (.iadd, 1) := F_MD_putsPoint_0.2.2.2.2.2.2.2.2.2.2.2.2.1
theorem d_MD_putsPoint_17 : decode prog_12_method_28_code 17 = .ok (.aload_n 0, 1) := F_MD_putsPoint_0.2.2.2.2.2.2.2.2.2.2.2.2.2.1
theorem d_MD_putsPoint_18 : decode prog_12_method_28_code 18 = .ok (.getfield 50, 3) := F_MD_putsPoint_0.2.2.2.2.2.2.2.2.2.2.2.2.2.2.1
theorem d_MD_putsPoint_21 : decode prog_12_method_28_code 21 = .ok (.iload_n 3, 1) := F_MD_putsPoint_0.2.2.2.2.2.2.2.2.2.2.2.2.2.2.2.1
theorem d_MD_putsPoint_22 : decode prog_12_method_28_code 22 = .ok (.laload, 1) := F_MD_putsPoint_0.2.2.2.2.2.2.2.2.2.2.2.2.2.2.2.2.1
theorem d_MD_putsPoint_23 : decode prog_12_method_28_code 23 = .ok (.lastore, 1) := F_MD_putsPoint_0.2.2.2.2.2.2.2.2.2.2.2.2.2.2.2.2.2.1
theorem d_MD_putsPoint_24 : decode prog_12_method_28_code 24 = .ok (.iinc 3 (1), 3) := F_MD_putsPoint_0.2.2.2.2.2.2.2.2.2.2.2.2.2.2.2.2.2.2.1
theorem d_MD_putsPoint_27 : decode prog_12_method_28_code 27 = .ok (.goto (-25), 3) := F_MD_putsPoint_0.2.2.2.2.2.2.2.2.2.2.2.2.2.2.2.2.2.2.2.1
theorem d_MD_putsPoint_30 : decode prog_12_method_28_code 30 = .ok (.return_, 1) := F_MD_putsPoint_0.2.2.2.2.2.2.2.2.2.2.2.2.2.2.2.2.2.2.2.2.1
theorem F_MD_fault_0 : Jvm.Free.DS.Facts prog_12_method_22_code 0 [(.aload_n 0, 1), (.iconst 0, 1), (.putfield 74, 3), (.iload_n 1, 1), (.ifCond .ne (10), 3), (.aload_n 0, 1), (.getfield 201, 3), (.goto (16), 3), (.iload_n 1, 1), (.iconst 1, 1), (.if_icmp .ne (10), 3), (.aload_n 0, 1), (.getfield 37, 3), (.goto (4), 3), (.iconst (-1), 1), (.ireturn, 1)] := Jvm.Free.DS.facts 0 _ (by decide +kernel) (by decide +kernel)
theorem d_MD_fault_0 : decode prog_12_method_22_code 0 = .ok (.aload_n 0, 1) := F_MD_fault_0.1
theorem d_MD_fault_1 : decode prog_12_method_22_code 1 = .ok (.iconst 0, 1) := F_MD_fault_0.2.1
theorem d_MD_fault_2 : decode prog_12_method_22_code 2 = .ok (.putfield 74, 3) := F_MD_fault_0.2.2.1
theorem d_MD_fault_5 : decode prog_12_method_22_code 5 = .ok (.iload_n 1, 1) := F_MD_fault_0.2.2.2.1
theorem d_MD_fault_6 : decode prog_12_method_22_code 6 = .ok (.ifCond .ne (10), 3) := F_MD_fault_0.2.2.2.2.1
theorem d_MD_fault_9 : decode prog_12_method_22_code 9 = .ok (.aload_n 0, 1) := F_MD_fault_0.2.2.2.2.2.1
theorem d_MD_fault_10 : decode prog_12_method_22_code 10 = .ok (.getfield 201, 3) := F_MD_fault_0.2.2.2.2.2.2.1
theorem d_MD_fault_13 : decode prog_12_method_22_code 13 = .ok (.goto (16), 3) := F_MD_fault_0.2.2.2.2.2.2.2.1
theorem d_MD_fault_16 : decode prog_12_method_22_code 16 = .ok (.iload_n 1, 1) := F_MD_fault_0.2.2.2.2.2.2.2.2.1
theorem d_MD_fault_17 : decode prog_12_method_22_code 17 = .ok (.iconst 1, 1) := F_MD_fault_0.2.2.2.2.2.2.2.2.2.1
theorem d_MD_fault_18 : decode prog_12_method_22_code 18 = .ok (.if_icmp .ne (10), 3) := F_MD_fault_0.2.2.2.2.2.2.2.2.2.2.1
theorem d_MD_fault_21 : decode prog_12_method_22_code 21 = .ok (.aload_n 0, 1) := F_MD_fault_0.2.2.2.2.2.2.2.2.2.2.2.1
theorem d_MD_fault_22 : decode prog_12_method_22_code 22 = .ok (.getfield 37, 3) := F_MD_fault_0.2.2.2.2.2.2.2.2.2.2.2.2.1
theorem d_MD_fault_25 : decode prog_12_method_22_code 25 = .ok (.goto (4), 3) := F_MD_fault_0.2.2.2.2.2.2.2.2.2.2.2.2.2.1
theorem d_MD_fault_28 : decode prog_12_method_22_code 28 = .ok (.iconst (-1), 1) := F_MD_fault_0.2.2.2.2.2.2.2.2.2.2.2.2.2.2.1
theorem d_MD_fault_29 : decode prog_12_method_22_code 29 = .ok (.ireturn, 1) := F_MD_fault_0.2.2.2.2.2.2.2.2.2.2.2.2.2.2.2.1
theorem F_MD_corner_0 : Jvm.Free.DS.Facts prog_12_method_42_code 0 [(.aload_n 0, 1), (.iconst 0, 1), (.putfield 74, 3), (.aload_n 0, 1), (.iload_n 1, 1), (.invokevirtual 238, 3), (.ifCond .eq (12), 3), (.iload_n 2, 1), (.ifCond .lt (8), 3), (.iload_n 2, 1), (.iconst 3, 1), (.if_icmp .le (10), 3), (.aload_n 0, 1), (.iconst 1, 1), (.putfield 74, 3), (.iconst 0, 1), (.ireturn, 1), (.iload_n 3, 1), (.ifCond .lt (8), 3), (.iload_n 3, 1), (.iconst 1, 1), (.if_icmp .le (10), 3), (.aload_n 0, 1), (.iconst 2, 1), (.putfield 74, 3), (.iconst 0, 1), (.ireturn, 1), (.aload_n 0, 1), (.getfield 15, 3), (.bipush (8), 2), (.iload_n 1, 1), (.imul, 1)] := Jvm.Free.DS.facts 0 _ (by decide +kernel) (by decide +kernel)
theorem d_MD_corner_0 : decode prog_12_method_42_code 0 = .ok (.aload_n 0, 1) := F_MD_corner_0.1
theorem d_MD_corner_1 : decode prog_12_method_42_code 1 = .ok (.iconst 0, 1) := F_MD_corner_0.2.1
theorem d_MD_corner_2 : decode prog_12_method_42_code 2 = .ok (.putfield 74, 3) := F_MD_corner_0.2.2.1
theorem d_MD_corner_5 : decode prog_12_method_42_code 5 = .ok (.aload_n 0, 1) := F_MD_corner_0.2.2.2.1
theorem d_MD_corner_6 : decode prog_12_method_42_code 6 = .ok (.iload_n 1, 1) := F_MD_corner_0.2.2.2.2.1
theorem d_MD_corner_7 : decode prog_12_method_42_code 7 = .ok (.invokevirtual 238, 3) := F_MD_corner_0.2.2.2.2.2.1
theorem d_MD_corner_10 : decode prog_12_method_42_code 10 = .ok (.ifCond .eq (12), 3) := F_MD_corner_0.2.2.2.2.2.2.1
theorem d_MD_corner_13 : decode prog_12_method_42_code 13 = .ok (.iload_n 2, 1) := F_MD_corner_0.2.2.2.2.2.2.2.1
theorem d_MD_corner_14 : decode prog_12_method_42_code 14 = .ok (.ifCond .lt (8), 3) := F_MD_corner_0.2.2.2.2.2.2.2.2.1
theorem d_MD_corner_17 : decode prog_12_method_42_code 17 = .ok (.iload_n 2, 1) := F_MD_corner_0.2.2.2.2.2.2.2.2.2.1
theorem d_MD_corner_18 : decode prog_12_method_42_code 18 = .ok (.iconst 3, 1) := F_MD_corner_0.2.2.2.2.2.2.2.2.2.2.1
theorem d_MD_corner_19 : decode prog_12_method_42_code 19 = .ok (.if_icmp .le (10), 3) := F_MD_corner_0.2.2.2.2.2.2.2.2.2.2.2.1
theorem d_MD_corner_22 : decode prog_12_method_42_code 22 = .ok (.aload_n 0, 1) := F_MD_corner_0.2.2.2.2.2.2.2.2.2.2.2.2.1
theorem d_MD_corner_23 : decode prog_12_method_42_code 23 = .ok (.iconst 1, 1) := F_MD_corner_0.2.2.2.2.2.2.2.2.2.2.2.2.2.1
theorem d_MD_corner_24 : decode prog_12_method_42_code 24 = .ok (.putfield 74, 3) := F_MD_corner_0.2.2.2.2.2.2.2.2.2.2.2.2.2.2.1
theorem d_MD_corner_27 : decode prog_12_method_42_code 27 = .ok (.iconst 0, 1) := F_MD_corner_0.2.2.2.2.2.2.2.2.2.2.2.2.2.2.2.1
theorem d_MD_corner_28 : decode prog_12_method_42_code 28 = .ok (.ireturn, 1) := F_MD_corner_0.2.2.2.2.2.2.2.2.2.2.2.2.2.2.2.2.1
theorem d_MD_corner_29 : decode prog_12_method_42_code 29 = .ok (.iload_n 3, 1) := F_MD_corner_0.2.2.2.2.2.2.2.2.2.2.2.2.2.2.2.2.2.1
theorem d_MD_corner_30 : decode prog_12_method_42_code 30 = .ok (.ifCond .lt (8), 3) := F_MD_corner_0.2.2.2.2.2.2.2.2.2.2.2.2.2.2.2.2.2.2.1
theorem d_MD_corner_33 : decode prog_12_method_42_code 33 = .ok (.iload_n 3, 1) := F_MD_corner_0.2.2.2.2.2.2.2.2.2.2.2.2.2.2.2.2.2.2.2.1
theorem d_MD_corner_34 : decode prog_12_method_42_code 34 = .ok (.iconst 1, 1) := F_MD_corner_0.2.2.2.2.2.2.2.2.2.2.2.2.2.2.2.2.2.2.2.2.1
theorem d_MD_corner_35 : decode prog_12_method_42_code 35 = .ok (.if_icmp .le (10), 3) := F_MD_corner_0.2.2.2.2.2.2.2.2.2.2.2.2.2.2.2.2.2.2.2.2.2.1
theorem d_MD_corner_38 : decode prog_12_method_42_code 38 = .ok (.aload_n 0, 1) := F_MD_corner_0.2.2.2.2.2.2.2.2.2.2.2.2.2.2.2.2.2.2.2.2.2.2.1
theorem d_MD_corner_39 : decode prog_12_method_42_code 39 = .ok (.iconst 2, 1) := F_MD_corner_0.2.2.2.2.2.2.2.2.2.2.2.2.2.2.2.2.2.2.2.2.2.2.2.1
theorem d_MD_corner_40 : decode prog_12_method_42_code 40 = .ok (.putfield 74, 3) := F_MD_corner_0.2.2.2.2.2.2.2.2.2.2.2.2.2.2.2.2.2.2.2.2.2.2.2.2.1
theorem d_MD_corner_43 : decode prog_12_method_42_code 43 = .ok (.iconst 0, 1) := F_MD_corner_0.2.2.2.2.2.2.2.2.2.2.2.2.2.2.2.2.2.2.2.2.2.2.2.2.2.1
theorem d_MD_corner_44 : decode prog_12_method_42_code 44 = .ok (.ireturn, 1) := F_MD_corner_0.2.2.2.2.2.2.2.2.2.2.2.2.2.2.2.2.2.2.2.2.2.2.2.2.2.2.1
theorem d_MD_corner_45 : decode prog_12_method_42_code 45 = .ok (.aload_n 0, 1) := F_MD_corner_0.2.2.2.2.2.2.2.2.2.2.2.2.2.2.2.2.2.2.2.2.2.2.2.2.2.2.2.1
theorem d_MD_corner_46 : decode prog_12_method_42_code 46 = .ok (.getfield 15, 3) := F_MD_corner_0.2.2.2.2.2.2.2.2.2.2.2.2.2.2.2.2.2.2.2.2.2.2.2.2.2.2.2.2.1
theorem d_MD_corner_49 : decode prog_12_method_42_code 49 = .ok (.bipush (8), 2) := F_MD_corner_0.2.2.2.2.2.2.2.2.2.2.2.2.2.2.2.2.2.2.2.2.2.2.2.2.2.2.2.2.2.1
theorem d_MD_corner_51 : decode prog_12_method_42_code 51 = .ok (.iload_n 1, 1) := F_MD_corner_0.2.2.2.2.2.2.2.2.2.2.2.2.2.2.2.2.2.2.2.2.2.2.2.2.2.2.2.2.2.2.1
theorem d_MD_corner_52 : decode prog_12_method_42_code 52 = .ok (.imul, 1) := F_MD_corner_0.2.2.2.2.2.2.2.2.2.2.2.2.2.2.2.2.2.2.2.2.2.2.2.2.2.2.2.2.2.2.2.1
theorem F_MD_corner_53 : Jvm.Free.DS.Facts prog_12_method_42_code 53 [(.iconst 2, 1), (.iload_n 2, 1), (.imul, 1), (.iadd, 1), (.iload_n 3, 1), (.iadd, 1), (.iaload, 1), (.ireturn, 1)] := Jvm.Free.DS.facts 53 _ (by decide +kernel) (by decide +kernel)
theorem d_MD_corner_53 : decode prog_12_method_42_code 53 = .ok (.iconst 2, 1) := F_MD_corner_53.1
theorem d_MD_corner_54 : decode prog_12_method_42_code 54 = .ok (.iload_n 2, 1) := F_MD_corner_53.2.1
theorem d_MD_corner_55 : decode prog_12_method_42_code 55 = .ok (.imul, 1) := F_MD_corner_53.2.2.1
theorem d_MD_corner_56 : decode prog_12_method_42_code 56 = .ok (.iadd, 1) := F_MD_corner_53.2.2.2.1
theorem d_MD_corner_57 : decode prog_12_method_42_code 57 = .ok (.iload_n 3, 1) := F_MD_corner_53.2.2.2.2.1
theorem d_MD_corner_58 : decode prog_12_method_42_code 58 = .ok (.iadd, 1) := F_MD_corner_53.2.2.2.2.2.1
theorem d_MD_corner_59 : decode prog_12_method_42_code 59 = .ok (.iaload, 1) := F_MD_corner_53.2.2.2.2.2.2.1
theorem d_MD_corner_60 : decode prog_12_method_42_code 60 = .ok (.ireturn, 1) := F_MD_corner_53.2.2.2.2.2.2.2.1
theorem F_MD_isQuad_0 : Jvm.Free.DS.Facts prog_12_method_37_code 0 [(.iload_n 1, 1), (.ifCond .lt (15), 3), (.iload_n 1, 1), (.aload_n 0, 1), (.getfield 204, 3), (.if_icmp .ge (7), 3), (.iconst 1, 1), (.goto (4), 3), (.iconst 0, 1), (.ireturn, 1)] := Jvm.Free.DS.facts 0 _ (by decide +kernel) (by decide +kernel)
theorem d_MD_isQuad_0 : decode prog_12_method_37_code 0 = .ok (.iload_n 1, 1) := F_MD_isQuad_0.1
theorem d_MD_isQuad_1 : decode prog_12_method_37_code 1 = .ok (.ifCond .lt (15), 3) := F_MD_isQuad_0.2.1
theorem d_MD_isQuad_4 : decode prog_12_method_37_code 4 = .ok (.iload_n 1, 1) := F_MD_isQuad_0.2.2.1
theorem d_MD_isQuad_5 : decode prog_12_method_37_code 5 = .ok (.aload_n 0, 1) := F_MD_isQuad_0.2.2.2.1
theorem d_MD_isQuad_6 : decode prog_12_method_37_code 6 = .ok (.getfield 204, 3) := F_MD_isQuad_0.2.2.2.2.1
theorem d_MD_isQuad_9 : decode prog_12_method_37_code 9 = .ok (.if_icmp .ge (7), 3) := F_MD_isQuad_0.2.2.2.2.2.1
theorem d_MD_isQuad_12 : decode prog_12_method_37_code 12 = .ok (.iconst 1, 1) := F_MD_isQuad_0.2.2.2.2.2.2.1
theorem d_MD_isQuad_13 : decode prog_12_method_37_code 13 = .ok (.goto (4), 3) := F_MD_isQuad_0.2.2.2.2.2.2.2.1
theorem d_MD_isQuad_16 : decode prog_12_method_37_code 16 = .ok (.iconst 0, 1) := F_MD_isQuad_0.2.2.2.2.2.2.2.2.1
theorem d_MD_isQuad_17 : decode prog_12_method_37_code 17 = .ok (.ireturn, 1) := F_MD_isQuad_0.2.2.2.2.2.2.2.2.2.1
theorem F_MD_map_0 : Jvm.Free.DS.Facts prog_12_method_43_code 0 [(.aload_n 0, 1), (.iconst 0, 1), (.putfield 74, 3), (.aload_n 0, 1), (.iload_n 1, 1), (.invokevirtual 241, 3), (.ifCond .ne (10), 3), (.aload_n 0, 1), (.iconst 1, 1), (.putfield 74, 3), (.iconst 0, 1), (.ireturn, 1), (.iload_n 2, 1), (.invokestatic 244, 3), (.ifCond .eq (10), 3), (.iload_n 3, 1), (.invokestatic 244, 3), (.ifCond .ne (10), 3), (.aload_n 0, 1), (.iconst 2, 1), (.putfield 74, 3), (.iconst 0, 1), (.ireturn, 1), (.aload_n 0, 1), (.getfield 21, 3), (.bipush (9), 2), (.iload_n 1, 1), (.imul, 1), (.iconst 3, 1), (.iload_n 2, 1), (.imul, 1), (.iadd, 1)] := Jvm.Free.DS.facts 0 _ (by decide +kernel) (by decide +kernel)
theorem d_MD_map_0 : decode prog_12_method_43_code 0 = .ok (.aload_n 0, 1) := F_MD_map_0.1
theorem d_MD_map_1 : decode prog_12_method_43_code 1 = .ok (.iconst 0, 1) := F_MD_map_0.2.1
theorem d_MD_map_2 : decode prog_12_method_43_code 2 = .ok (.putfield 74, 3) := F_MD_map_0.2.2.1
theorem d_MD_map_5 : decode prog_12_method_43_code 5 = .ok (.aload_n 0, 1) := F_MD_map_0.2.2.2.1
theorem d_MD_map_6 : decode prog_12_method_43_code 6 = .ok (.iload_n 1, 1) := F_MD_map_0.2.2.2.2.1
theorem d_MD_map_7 : decode prog_12_method_43_code 7 = .ok (.invokevirtual 241, 3) := F_MD_map_0.2.2.2.2.2.1
theorem d_MD_map_10 : decode prog_12_method_43_code 10 = .ok (.ifCond .ne (10), 3) := F_MD_map_0.2.2.2.2.2.2.1
theorem d_MD_map_13 : decode prog_12_method_43_code 13 = .ok (.aload_n 0, 1) := F_MD_map_0.2.2.2.2.2.2.2.1
theorem d_MD_map_14 : decode prog_12_method_43_code 14 = .ok (.iconst 1, 1) := F_MD_map_0.2.2.2.2.2.2.2.2.1
theorem d_MD_map_15 : decode prog_12_method_43_code 15 = .ok (.putfield 74, 3) := F_MD_map_0.2.2.2.2.2.2.2.2.2.1
theorem d_MD_map_18 : decode prog_12_method_43_code 18 = .ok (.iconst 0, 1) := F_MD_map_0.2.2.2.2.2.2.2.2.2.2.1
theorem d_MD_map_19 : decode prog_12_method_43_code 19 = .ok (.ireturn, 1) := F_MD_map_0.2.2.2.2.2.2.2.2.2.2.2.1
theorem d_MD_map_20 : decode prog_12_method_43_code 20 = .ok (.iload_n 2, 1) := F_MD_map_0.2.2.2.2.2.2.2.2.2.2.2.2.1
theorem d_MD_map_21 : decode prog_12_method_43_code 21 = .ok (.invokestatic 244, 3) := F_MD_map_0.2.2.2.2.2.2.2.2.2.2.2.2.2.1
theorem d_MD_map_24 : decode prog_12_method_43_code 24 = .ok (.ifCond .eq (10), 3) := F_MD_map_0.2.2.2.2.2.2.2.2.2.2.2.2.2.2.1
theorem d_MD_map_27 : decode prog_12_method_43_code 27 = .ok (.iload_n 3, 1) := F_MD_map_0.2.2.2.2.2.2.2.2.2.2.2.2.2.2.2.1
theorem d_MD_map_28 : decode prog_12_method_43_code 28 = .ok (.invokestatic 244, 3) := F_MD_map_0.2.2.2.2.2.2.2.2.2.2.2.2.2.2.2.2.1
theorem d_MD_map_31 : decode prog_12_method_43_code 31 = .ok (.ifCond .ne (10), 3) := F_MD_map_0.2.2.2.2.2.2.2.2.2.2.2.2.2.2.2.2.2.1
theorem d_MD_map_34 : decode prog_12_method_43_code 34 = .ok (.aload_n 0, 1) := F_MD_map_0.2.2.2.2.2.2.2.2.2.2.2.2.2.2.2.2.2.2.1
theorem d_MD_map_35 : decode prog_12_method_43_code 35 = .ok (.iconst 2, 1) := F_MD_map_0.2.2.2.2.2.2.2.2.2.2.2.2.2.2.2.2.2.2.2.1
theorem d_MD_map_36 : decode prog_12_method_43_code 36 = .ok (.putfield 74, 3) := F_MD_map_0.2.2.2.2.2.2.2.2.2.2.2.2.2.2.2.2.2.2.2.2.1
theorem d_MD_map_39 : decode prog_12_method_43_code 39 = .ok (.iconst 0, 1) := F_MD_map_0.2.2.2.2.2.2.2.2.2.2.2.2.2.2.2.2.2.2.2.2.2.1
theorem d_MD_map_40 : decode prog_12_method_43_code 40 = .ok (.ireturn, 1) := F_MD_map_0.2.2.2.2.2.2.2.2.2.2.2.2.2.2.2.2.2.2.2.2.2.2.1
theorem d_MD_map_41 : decode prog_12_method_43_code 41 = .ok (.aload_n 0, 1) := F_MD_map_0.2.2.2.2.2.2.2.2.2.2.2.2.2.2.2.2.2.2.2.2.2.2.2.1
theorem d_MD_map_42 : decode prog_12_method_43_code 42 = .ok (.getfield 21, 3) := F_MD_map_0.2.2.2.2.2.2.2.2.2.2.2.2.2.2.2.2.2.2.2.2.2.2.2.2.1
theorem d_MD_map_45 : decode prog_12_method_43_code 45 = .ok (.bipush (9), 2) := F_MD_map_0.2.2.2.2.2.2.2.2.2.2.2.2.2.2.2.2.2.2.2.2.2.2.2.2.2.1
theorem d_MD_map_47 : decode prog_12_method_43_code 47 = .ok (.iload_n 1, 1) := F_MD_map_0.2.2.2.2.2.2.2.2.2.2.2.2.2.2.2.2.2.2.2.2.2.2.2.2.2.2.1
theorem d_MD_map_48 : decode prog_12_method_43_code 48 = .ok (.imul, 1) := F_MD_map_0.2.2.2.2.2.2.2.2.2.2.2.2.2.2.2.2.2.2.2.2.2.2.2.2.2.2.2.1
theorem d_MD_map_49 : decode prog_12_method_43_code 49 = .ok (.iconst 3, 1) := F_MD_map_0.2.2.2.2.2.2.2.2.2.2.2.2.2.2.2.2.2.2.2.2.2.2.2.2.2.2.2.2.1
theorem d_MD_map_50 : decode prog_12_method_43_code 50 = .ok (.iload_n 2, 1) := F_MD_map_0.2.2.2.2.2.2.2.2.2.2.2.2.2.2.2.2.2.2.2.2.2.2.2.2.2.2.2.2.2.1
theorem d_MD_map_51 : decode prog_12_method_43_code 51 = .ok (.imul, 1) := F_MD_map_0.2.2.2.2.2.2.2.2.2.2.2.2.2.2.2.2.2.2.2.2.2.2.2.2.2.2.2.2.2.2.1
theorem d_MD_map_52 : decode prog_12_method_43_code 52 = .ok (.iadd, 1) := F_MD_map_0.2.2.2.2.2.2.2.2.2.2.2.2.2.2.2.2.2.2.2.2.2.2.2.2.2.2.2.2.2.2.2.1
theorem F_MD_map_53 : Jvm.Free.DS.Facts prog_12_method_43_code 53 [(.iload_n 3, 1), (.iadd, 1), (.laload, 1), (.l2i, 1), (.ireturn, 1)] := Jvm.Free.DS.facts 53 _ (by decide +kernel) (by decide +kernel)
theorem d_MD_map_53 : decode prog_12_method_43_code 53 = .ok (.iload_n 3, 1) := F_MD_map_53.1
theorem d_MD_map_54 : decode prog_12_method_43_code 54 = .ok (.iadd, 1) := F_MD_map_53.2.1
theorem d_MD_map_55 : decode prog_12_method_43_code 55 = .ok (.laload, 1) := F_MD_map_53.2.2.1
theorem d_MD_map_56 : decode prog_12_method_43_code 56 = .ok (.l2i, 1) := F_MD_map_53.2.2.2.1
theorem d_MD_map_57 : decode prog_12_method_43_code 57 = .ok (.ireturn, 1) := F_MD_map_53.2.2.2.2.1
theorem F_MD_isMap_0 : Jvm.Free.DS.Facts prog_12_method_38_code 0 [(.iload_n 1, 1), (.ifCond .lt (21), 3), (.iload_n 1, 1), (.i2l, 1), (.aload_n 0, 1), (.getfield 21, 3), (.sipush (168), 3), (.laload, 1), (.lcmp, 1), (.ifCond .ge (7), 3), (.iconst 1, 1), (.goto (4), 3), (.iconst 0, 1), (.ireturn, 1)] := Jvm.Free.DS.facts 0 _ (by decide +kernel) (by decide +kernel)
theorem d_MD_isMap_0 : decode prog_12_method_38_code 0 = .ok (.iload_n 1, 1) := F_MD_isMap_0.1
theorem d_MD_isMap_1 : decode prog_12_method_38_code 1 = .ok (.ifCond .lt (21), 3) := F_MD_isMap_0.2.1
theorem d_MD_isMap_4 : decode prog_12_method_38_code 4 = .ok (.iload_n 1, 1) := F_MD_isMap_0.2.2.1
theorem d_MD_isMap_5 : decode prog_12_method_38_code 5 = .ok (.i2l, 1) := F_MD_isMap_0.2.2.2.1
theorem d_MD_isMap_6 : decode prog_12_method_38_code 6 = .ok (.aload_n 0, 1) := F_MD_isMap_0.2.2.2.2.1
theorem d_MD_isMap_7 : decode prog_12_method_38_code 7 = .ok (.getfield 21, 3) := F_MD_isMap_0.2.2.2.2.2.1
theorem d_MD_isMap_10 : decode prog_12_method_38_code 10 = .ok (.sipush (168), 3) := F_MD_isMap_0.2.2.2.2.2.2.1
theorem d_MD_isMap_13 : decode prog_12_method_38_code 13 = .ok (.laload, 1) := F_MD_isMap_0.2.2.2.2.2.2.2.1
theorem d_MD_isMap_14 : decode prog_12_method_38_code 14 = .ok (.lcmp, 1) := F_MD_isMap_0.2.2.2.2.2.2.2.2.1
theorem d_MD_isMap_15 : decode prog_12_method_38_code 15 = .ok (.ifCond .ge (7), 3) := F_MD_isMap_0.2.2.2.2.2.2.2.2.2.1
theorem d_MD_isMap_18 : decode prog_12_method_38_code 18 = .ok (.iconst 1, 1) := F_MD_isMap_0.2.2.2.2.2.2.2.2.2.2.1
theorem d_MD_isMap_19 : decode prog_12_method_38_code 19 = .ok (.goto (4), 3) := F_MD_isMap_0.2.2.2.2.2.2.2.2.2.2.2.1
theorem d_MD_isMap_22 : decode prog_12_method_38_code 22 = .ok (.iconst 0, 1) := F_MD_isMap_0.2.2.2.2.2.2.2.2.2.2.2.2.1
theorem d_MD_isMap_23 : decode prog_12_method_38_code 23 = .ok (.ireturn, 1) := F_MD_isMap_0.2.2.2.2.2.2.2.2.2.2.2.2.2.1
theorem F_MD_isThird_0 : Jvm.Free.DS.Facts prog_12_method_40_code 0 [(.iload_n 0, 1), (.ifCond .lt (12), 3), (.iload_n 0, 1), (.iconst 2, 1), (.if_icmp .gt (7), 3), (.iconst 1, 1), (.goto (4), 3), (.iconst 0, 1), (.ireturn, 1)] := Jvm.Free.DS.facts 0 _ (by decide +kernel) (by decide +kernel)
theorem d_MD_isThird_0 : decode prog_12_method_40_code 0 = .ok (.iload_n 0, 1) := F_MD_isThird_0.1
theorem d_MD_isThird_1 : decode prog_12_method_40_code 1 = .ok (.ifCond .lt (12), 3) := F_MD_isThird_0.2.1
theorem d_MD_isThird_4 : decode prog_12_method_40_code 4 = .ok (.iload_n 0, 1) := F_MD_isThird_0.2.2.1
theorem d_MD_isThird_5 : decode prog_12_method_40_code 5 = .ok (.iconst 2, 1) := F_MD_isThird_0.2.2.2.1
theorem d_MD_isThird_6 : decode prog_12_method_40_code 6 = .ok (.if_icmp .gt (7), 3) := F_MD_isThird_0.2.2.2.2.1
theorem d_MD_isThird_9 : decode prog_12_method_40_code 9 = .ok (.iconst 1, 1) := F_MD_isThird_0.2.2.2.2.2.1
theorem d_MD_isThird_10 : decode prog_12_method_40_code 10 = .ok (.goto (4), 3) := F_MD_isThird_0.2.2.2.2.2.2.1
theorem d_MD_isThird_13 : decode prog_12_method_40_code 13 = .ok (.iconst 0, 1) := F_MD_isThird_0.2.2.2.2.2.2.2.1
theorem d_MD_isThird_14 : decode prog_12_method_40_code 14 = .ok (.ireturn, 1) := F_MD_isThird_0.2.2.2.2.2.2.2.2.1
theorem F_MD_point_0 : Jvm.Free.DS.Facts prog_12_method_44_code 0 [(.aload_n 0, 1), (.iconst 0, 1), (.putfield 74, 3), (.aload_n 0, 1), (.iload_n 1, 1), (.invokevirtual 247, 3), (.ifCond .ne (10), 3), (.aload_n 0, 1), (.iconst 1, 1), (.putfield 74, 3), (.iconst 0, 1), (.ireturn, 1), (.iload_n 2, 1), (.invokestatic 244, 3), (.ifCond .ne (10), 3), (.aload_n 0, 1), (.iconst 2, 1), (.putfield 74, 3), (.iconst 0, 1), (.ireturn, 1), (.aload_n 0, 1), (.iload_n 1, 1), (.iload_n 2, 1), (.invokevirtual 250, 3), (.l2i, 1), (.ireturn, 1)] := Jvm.Free.DS.facts 0 _ (by decide +kernel) (by decide +kernel)
theorem d_MD_point_0 : decode prog_12_method_44_code 0 = .ok (.aload_n 0, 1) := F_MD_point_0.1
theorem d_MD_point_1 : decode prog_12_method_44_code 1 = .ok (.iconst 0, 1) := F_MD_point_0.2.1
theorem d_MD_point_2 : decode prog_12_method_44_code 2 = .ok (.putfield 74, 3) := F_MD_point_0.2.2.1
theorem d_MD_point_5 : decode prog_12_method_44_code 5 = .ok (.aload_n 0, 1) := F_MD_point_0.2.2.2.1
theorem d_MD_point_6 : decode prog_12_method_44_code 6 = .ok (.iload_n 1, 1) := F_MD_point_0.2.2.2.2.1
theorem d_MD_point_7 : decode prog_12_method_44_code 7 = .ok (.invokevirtual 247, 3) := F_MD_point_0.2.2.2.2.2.1
theorem d_MD_point_10 : decode prog_12_method_44_code 10 = .ok (.ifCond .ne (10), 3) := F_MD_point_0.2.2.2.2.2.2.1
theorem d_MD_point_13 : decode prog_12_method_44_code 13 = .ok (.aload_n 0, 1) := F_MD_point_0.2.2.2.2.2.2.2.1
theorem d_MD_point_14 : decode prog_12_method_44_code 14 = .ok (.iconst 1, 1) := F_MD_point_0.2.2.2.2.2.2.2.2.1
theorem d_MD_point_15 : decode prog_12_method_44_code 15 = .ok (.putfield 74, 3) := F_MD_point_0.2.2.2.2.2.2.2.2.2.1
theorem d_MD_point_18 : decode prog_12_method_44_code 18 = .ok (.iconst 0, 1) := F_MD_point_0.2.2.2.2.2.2.2.2.2.2.1
theorem d_MD_point_19 : decode prog_12_method_44_code 19 = .ok (.ireturn, 1) := F_MD_point_0.2.2.2.2.2.2.2.2.2.2.2.1
theorem d_MD_point_20 : decode prog_12_method_44_code 20 = .ok (.iload_n 2, 1) := F_MD_point_0.2.2.2.2.2.2.2.2.2.2.2.2.1
theorem d_MD_point_21 : decode prog_12_method_44_code 21 = .ok (.invokestatic 244, 3) := F_MD_point_0.2.2.2.2.2.2.2.2.2.2.2.2.2.1
theorem d_MD_point_24 : decode prog_12_method_44_code 24 = .ok (.ifCond .ne (10), 3) := F_MD_point_0.2.2.2.2.2.2.2.2.2.2.2.2.2.2.1
theorem d_MD_point_27 : decode prog_12_method_44_code 27 = .ok (.aload_n 0, 1) := F_MD_point_0.2.2.2.2.2.2.2.2.2.2.2.2.2.2.2.1
theorem d_MD_point_28 : decode prog_12_method_44_code 28 = .ok (.iconst 2, 1) := F_MD_point_0.2.2.2.2.2.2.2.2.2.2.2.2.2.2.2.2.1
theorem d_MD_point_29 : decode prog_12_method_44_code 29 = .ok (.putfield 74, 3) := F_MD_point_0.2.2.2.2.2.2.2.2.2.2.2.2.2.2.2.2.2.1
theorem d_MD_point_32 : decode prog_12_method_44_code 32 = .ok (.iconst 0, 1) := F_MD_point_0.2.2.2.2.2.2.2.2.2.2.2.2.2.2.2.2.2.2.1
theorem d_MD_point_33 : decode prog_12_method_44_code 33 = .ok (.ireturn, 1) := F_MD_point_0.2.2.2.2.2.2.2.2.2.2.2.2.2.2.2.2.2.2.2.1
theorem d_MD_point_34 : decode prog_12_method_44_code 34 = .ok (.aload_n 0, 1) := F_MD_point_0.2.2.2.2.2.2.2.2.2.2.2.2.2.2.2.2.2.2.2.2.1
theorem d_MD_point_35 : decode prog_12_method_44_code 35 = .ok (.iload_n 1, 1) := F_MD_point_0.2.2.2.2.2.2.2.2.2.2.2.2.2.2.2.2.2.2.2.2.2.1
theorem d_MD_point_36 : decode prog_12_method_44_code 36 = .ok (.iload_n 2, 1) := F_MD_point_0.2.2.2.2.2.2.2.2.2.2.2.2.2.2.2.2.2.2.2.2.2.2.1
theorem d_MD_point_37 : decode prog_12_method_44_code 37 = .ok (.invokevirtual 250, 3) := F_MD_point_0.2.2.2.2.2.2.2.2.2.2.2.2.2.2.2.2.2.2.2.2.2.2.2.1
theorem d_MD_point_40 : decode prog_12_method_44_code 40 = .ok (.l2i, 1) := F_MD_point_0.2.2.2.2.2.2.2.2.2.2.2.2.2.2.2.2.2.2.2.2.2.2.2.2.1
theorem d_MD_point_41 : decode prog_12_method_44_code 41 = .ok (.ireturn, 1) := F_MD_point_0.2.2.2.2.2.2.2.2.2.2.2.2.2.2.2.2.2.2.2.2.2.2.2.2.2.1
theorem F_MD_isPoint_0 : Jvm.Free.DS.Facts prog_12_method_39_code 0 [(.iload_n 1, 1), (.ifCond .lt (21), 3), (.iload_n 1, 1), (.i2l, 1), (.aload_n 0, 1), (.getfield 21, 3), (.sipush (169), 3), (.laload, 1), (.lcmp, 1), (.ifCond .ge (7), 3), (.iconst 1, 1), (.goto (4), 3), (.iconst 0, 1), (.ireturn, 1)] := Jvm.Free.DS.facts 0 _ (by decide +kernel) (by decide +kernel)
theorem d_MD_isPoint_0 : decode prog_12_method_39_code 0 = .ok (.iload_n 1, 1) := F_MD_isPoint_0.1
theorem d_MD_isPoint_1 : decode prog_12_method_39_code 1 = .ok (.ifCond .lt (21), 3) := F_MD_isPoint_0.2.1
theorem d_MD_isPoint_4 : decode prog_12_method_39_code 4 = .ok (.iload_n 1, 1) := F_MD_isPoint_0.2.2.1
theorem d_MD_isPoint_5 : decode prog_12_method_39_code 5 = .ok (.i2l, 1) := F_MD_isPoint_0.2.2.2.1
theorem d_MD_isPoint_6 : decode prog_12_method_39_code 6 = .ok (.aload_n 0, 1) := F_MD_isPoint_0.2.2.2.2.1
theorem d_MD_isPoint_7 : decode prog_12_method_39_code 7 = .ok (.getfield 21, 3) := F_MD_isPoint_0.2.2.2.2.2.1
theorem d_MD_isPoint_10 : decode prog_12_method_39_code 10 = .ok (.sipush (169), 3) := F_MD_isPoint_0.2.2.2.2.2.2.1
theorem d_MD_isPoint_13 : decode prog_12_method_39_code 13 = .ok (.laload, 1) := F_MD_isPoint_0.2.2.2.2.2.2.2.1
theorem d_MD_isPoint_14 : decode prog_12_method_39_code 14 = .ok (.lcmp, 1) := F_MD_isPoint_0.2.2.2.2.2.2.2.2.1
theorem d_MD_isPoint_15 : decode prog_12_method_39_code 15 = .ok (.ifCond .ge (7), 3) := F_MD_isPoint_0.2.2.2.2.2.2.2.2.2.1
theorem d_MD_isPoint_18 : decode prog_12_method_39_code 18 = .ok (.iconst 1, 1) := F_MD_isPoint_0.2.2.2.2.2.2.2.2.2.2.1
theorem d_MD_isPoint_19 : decode prog_12_method_39_code 19 = .ok (.goto (4), 3) := F_MD_isPoint_0.2.2.2.2.2.2.2.2.2.2.2.1
theorem d_MD_isPoint_22 : decode prog_12_method_39_code 22 = .ok (.iconst 0, 1) := F_MD_isPoint_0.2.2.2.2.2.2.2.2.2.2.2.2.1
theorem d_MD_isPoint_23 : decode prog_12_method_39_code 23 = .ok (.ireturn, 1) := F_MD_isPoint_0.2.2.2.2.2.2.2.2.2.2.2.2.2.1
theorem F_MD_pointOf_0 : Jvm.Free.DS.Facts prog_12_method_41_code 0 [(.aload_n 0, 1), (.getfield 21, 3), (.sipush (144), 3), (.iconst 3, 1), (.iload_n 1, 1), (.imul, 1), (.iadd, 1), (.iload_n 2, 1), (.iadd, 1), (.laload, 1), (.lreturn, 1)] := Jvm.Free.DS.facts 0 _ (by decide +kernel) (by decide +kernel)
theorem d_MD_pointOf_0 : decode prog_12_method_41_code 0 = .ok (.aload_n 0, 1) := F_MD_pointOf_0.1
theorem d_MD_pointOf_1 : decode prog_12_method_41_code 1 = .ok (.getfield 21, 3) := F_MD_pointOf_0.2.1
theorem d_MD_pointOf_4 : decode prog_12_method_41_code 4 = .ok (.sipush (144), 3) := F_MD_pointOf_0.2.2.1
theorem d_MD_pointOf_7 : decode prog_12_method_41_code 7 = .ok (.iconst 3, 1) := F_MD_pointOf_0.2.2.2.1
theorem d_MD_pointOf_8 : decode prog_12_method_41_code 8 = .ok (.iload_n 1, 1) := F_MD_pointOf_0.2.2.2.2.1
theorem d_MD_pointOf_9 : decode prog_12_method_41_code 9 = .ok (.imul, 1) := F_MD_pointOf_0.2.2.2.2.2.1
theorem d_MD_pointOf_10 : decode prog_12_method_41_code 10 = .ok (.iadd, 1) := F_MD_pointOf_0.2.2.2.2.2.2.1
theorem d_MD_pointOf_11 : decode prog_12_method_41_code 11 = .ok (.iload_n 2, 1) := F_MD_pointOf_0.2.2.2.2.2.2.2.1
theorem d_MD_pointOf_12 : decode prog_12_method_41_code 12 = .ok (.iadd, 1) := F_MD_pointOf_0.2.2.2.2.2.2.2.2.1
theorem d_MD_pointOf_13 : decode prog_12_method_41_code 13 = .ok (.laload, 1) := F_MD_pointOf_0.2.2.2.2.2.2.2.2.2.1
theorem d_MD_pointOf_14 : decode prog_12_method_41_code 14 = .ok (.lreturn, 1) := F_MD_pointOf_0.2.2.2.2.2.2.2.2.2.2.1
theorem F_MD_shape_0 : Jvm.Free.DS.Facts prog_12_method_48_code 0 [(.aload_n 0, 1), (.iconst 0, 1), (.putfield 74, 3), (.aload_n 0, 1), (.iload_n 1, 1), (.invokevirtual 238, 3), (.ifCond .ne (5), 3), (.iconst (-1), 1), (.ireturn, 1), (.aload_n 0, 1), (.iload_n 1, 1), (.invokevirtual 258, 3), (.bipush (-2), 2), (.if_icmp .eq (5), 3), (.iconst 1, 1), (.ireturn, 1), (.aload_n 0, 1), (.iload_n 1, 1), (.iconst 0, 1), (.iconst 1, 1), (.iconst 2, 1), (.iconst 3, 1), (.invokevirtual 261, 3), (.ifCond .ne (15), 3), (.aload_n 0, 1), (.iload_n 1, 1), (.iconst 1, 1), (.iconst 2, 1), (.iconst 3, 1), (.iconst 0, 1), (.invokevirtual 261, 3), (.ifCond .eq (7), 3)] := Jvm.Free.DS.facts 0 _ (by decide +kernel) (by decide +kernel)
theorem d_MD_shape_0 : decode prog_12_method_48_code 0 = .ok (.aload_n 0, 1) := F_MD_shape_0.1
theorem d_MD_shape_1 : decode prog_12_method_48_code 1 = .ok (.iconst 0, 1) := F_MD_shape_0.2.1
theorem d_MD_shape_2 : decode prog_12_method_48_code 2 = .ok (.putfield 74, 3) := F_MD_shape_0.2.2.1
theorem d_MD_shape_5 : decode prog_12_method_48_code 5 = .ok (.aload_n 0, 1) := F_MD_shape_0.2.2.2.1
theorem d_MD_shape_6 : decode prog_12_method_48_code 6 = .ok (.iload_n 1, 1) := F_MD_shape_0.2.2.2.2.1
theorem d_MD_shape_7 : decode prog_12_method_48_code 7 = .ok (.invokevirtual 238, 3) := F_MD_shape_0.2.2.2.2.2.1
theorem d_MD_shape_10 : decode prog_12_method_48_code 10 = .ok (.ifCond .ne (5), 3) := F_MD_shape_0.2.2.2.2.2.2.1
theorem d_MD_shape_13 : decode prog_12_method_48_code 13 = .ok (.iconst (-1), 1) := F_MD_shape_0.2.2.2.2.2.2.2.1
theorem d_MD_shape_14 : decode prog_12_method_48_code 14 = .ok (.ireturn, 1) := F_MD_shape_0.2.2.2.2.2.2.2.2.1
theorem d_MD_shape_15 : decode prog_12_method_48_code 15 = .ok (.aload_n 0, 1) := F_MD_shape_0.2.2.2.2.2.2.2.2.2.1
theorem d_MD_shape_16 : decode prog_12_method_48_code 16 = .ok (.iload_n 1, 1) := F_MD_shape_0.2.2.2.2.2.2.2.2.2.2.1
theorem d_MD_shape_17 : decode prog_12_method_48_code 17 = .ok (.invokevirtual 258, 3) := F_MD_shape_0.2.2.2.2.2.2.2.2.2.2.2.1
theorem d_MD_shape_20 : decode prog_12_method_48_code 20 = .ok (.bipush (-2), 2) := F_MD_shape_0.2.2.2.2.2.2.2.2.2.2.2.2.1
theorem d_MD_shape_22 : decode prog_12_method_48_code 22 = .ok (.if_icmp .eq (5), 3) := F_MD_shape_0.2.2.2.2.2.2.2.2.2.2.2.2.2.1
theorem d_MD_shape_25 : decode prog_12_method_48_code 25 = .ok (.iconst 1, 1) := F_MD_shape_0.2.2.2.2.2.2.2.2.2.2.2.2.2.2.1
theorem d_MD_shape_26 : decode prog_12_method_48_code 26 = .ok (.ireturn, 1) := F_MD_shape_0.2.2.2.2.2.2.2.2.2.2.2.2.2.2.2.1
theorem d_MD_shape_27 : decode prog_12_method_48_code 27 = .ok (.aload_n 0, 1) := F_MD_shape_0.2.2.2.2.2.2.2.2.2.2.2.2.2.2.2.2.1
theorem d_MD_shape_28 : decode prog_12_method_48_code 28 = .ok (.iload_n 1, 1) := F_MD_shape_0.2.2.2.2.2.2.2.2.2.2.2.2.2.2.2.2.2.1
theorem d_MD_shape_29 : decode prog_12_method_48_code 29 = .ok (.iconst 0, 1) := F_MD_shape_0.2.2.2.2.2.2.2.2.2.2.2.2.2.2.2.2.2.2.1
theorem d_MD_shape_30 : decode prog_12_method_48_code 30 = .ok (.iconst 1, 1) := F_MD_shape_0.2.2.2.2.2.2.2.2.2.2.2.2.2.2.2.2.2.2.2.1
theorem d_MD_shape_31 : decode prog_12_method_48_code 31 = .ok (.iconst 2, 1) := F_MD_shape_0.2.2.2.2.2.2.2.2.2.2.2.2.2.2.2.2.2.2.2.2.1
theorem d_MD_shape_32 : decode prog_12_method_48_code 32 = .ok (.iconst 3, 1) := F_MD_shape_0.2.2.2.2.2.2.2.2.2.2.2.2.2.2.2.2.2.2.2.2.2.1
theorem d_MD_shape_33 : decode prog_12_method_48_code 33 = .ok (.invokevirtual 261, 3) := F_MD_shape_0.2.2.2.2.2.2.2.2.2.2.2.2.2.2.2.2.2.2.2.2.2.2.1
theorem d_MD_shape_36 : decode prog_12_method_48_code 36 = .ok (.ifCond .ne (15), 3) := F_MD_shape_0.2.2.2.2.2.2.2.2.2.2.2.2.2.2.2.2.2.2.2.2.2.2.2.1
theorem d_MD_shape_39 : decode prog_12_method_48_code 39 = .ok (.aload_n 0, 1) := F_MD_shape_0.2.2.2.2.2.2.2.2.2.2.2.2.2.2.2.2.2.2.2.2.2.2.2.2.1
theorem d_MD_shape_40 : decode prog_12_method_48_code 40 = .ok (.iload_n 1, 1) := F_MD_shape_0.2.2.2.2.2.2.2.2.2.2.2.2.2.2.2.2.2.2.2.2.2.2.2.2.2.1
theorem d_MD_shape_41 : decode prog_12_method_48_code 41 = .ok (.iconst 1, 1) := F_MD_shape_0.2.2.2.2.2.2.2.2.2.2.2.2.2.2.2.2.2.2.2.2.2.2.2.2.2.2.1
theorem d_MD_shape_42 : decode prog_12_method_48_code 42 = .ok (.iconst 2, 1) := F_MD_shape_0.2.2.2.2.2.2.2.2.2.2.2.2.2.2.2.2.2.2.2.2.2.2.2.2.2.2.2.1
theorem d_MD_shape_43 : decode prog_12_method_48_code 43 = .ok (.iconst 3, 1) := F_MD_shape_0.2.2.2.2.2.2.2.2.2.2.2.2.2.2.2.2.2.2.2.2.2.2.2.2.2.2.2.2.1
theorem d_MD_shape_44 : decode prog_12_method_48_code 44 = .ok (.iconst 0, 1) := F_MD_shape_0.2.2.2.2.2.2.2.2.2.2.2.2.2.2.2.2.2.2.2.2.2.2.2.2.2.2.2.2.2.1
theorem d_MD_shape_45 : decode prog_12_method_48_code 45 = .ok (.invokevirtual 261, 3) := F_MD_shape_0.2.2.2.2.2.2.2.2.2.2.2.2.2.2.2.2.2.2.2.2.2.2.2.2.2.2.2.2.2.2.1
theorem d_MD_shape_48 : decode prog_12_method_48_code 48 = .ok (.ifCond .eq (7), 3) := F_MD_shape_0.2.2.2.2.2.2.2.2.2.2.2.2.2.2.2.2.2.2.2.2.2.2.2.2.2.2.2.2.2.2.2.1
theorem F_MD_shape_51 : Jvm.Free.DS.Facts prog_12_method_48_code 51 [(.iconst 2, 1), (.goto (4), 3), (.iconst 0, 1), (.ireturn, 1)] := Jvm.Free.DS.facts 51 _ (by decide +kernel) (by decide +kernel)
theorem d_MD_shape_51 : decode prog_12_method_48_code 51 = .ok (.iconst 2, 1) := F_MD_shape_51.1
theorem d_MD_shape_52 : decode prog_12_method_48_code 52 = .ok (.goto (4), 3) := F_MD_shape_51.2.1
theorem d_MD_shape_55 : decode prog_12_method_48_code 55 = .ok (.iconst 0, 1) := F_MD_shape_51.2.2.1
theorem d_MD_shape_56 : decode prog_12_method_48_code 56 = .ok (.ireturn, 1) := F_MD_shape_51.2.2.2.1
theorem F_MD_dentOf_0 : Jvm.Free.DS.Facts prog_12_method_46_code 0 [(.iconst 0, 1), (.istore_n 2, 1), (.iload_n 2, 1), (.iconst 4, 1), (.if_icmp .ge (20), 3), (.aload_n 0, 1), (.iload_n 1, 1), (.iload_n 2, 1), (.invokevirtual 254, 3), (.ifCond .eq (5), 3), (.iload_n 2, 1), (.ireturn, 1), (.iinc 2 (1), 3), (.goto (-19), 3), (.bipush (-2), 2), (.ireturn, 1)] := Jvm.Free.DS.facts 0 _ (by decide +kernel) (by decide +kernel)
theorem d_MD_dentOf_0 : decode prog_12_method_46_code 0 = .ok (.iconst 0, 1) := F_MD_dentOf_0.1
theorem d_MD_dentOf_1 : decode prog_12_method_46_code 1 = .ok (.istore_n 2, 1) := F_MD_dentOf_0.2.1
theorem d_MD_dentOf_2 : decode prog_12_method_46_code 2 = .ok (.iload_n 2, 1) := F_MD_dentOf_0.2.2.1
theorem d_MD_dentOf_3 : decode prog_12_method_46_code 3 = .ok (.iconst 4, 1) := F_MD_dentOf_0.2.2.2.1
theorem d_MD_dentOf_4 : decode prog_12_method_46_code 4 = .ok (.if_icmp .ge (20), 3) := F_MD_dentOf_0.2.2.2.2.1
theorem d_MD_dentOf_7 : decode prog_12_method_46_code 7 = .ok (.aload_n 0, 1) := F_MD_dentOf_0.2.2.2.2.2.1
theorem d_MD_dentOf_8 : decode prog_12_method_46_code 8 = .ok (.iload_n 1, 1) := F_MD_dentOf_0.2.2.2.2.2.2.1
theorem d_MD_dentOf_9 : decode prog_12_method_46_code 9 = .ok (.iload_n 2, 1) := F_MD_dentOf_0.2.2.2.2.2.2.2.1
theorem d_MD_dentOf_10 : decode prog_12_method_46_code 10 = .ok (.invokevirtual 254, 3) := F_MD_dentOf_0.2.2.2.2.2.2.2.2.1
theorem d_MD_dentOf_13 : decode prog_12_method_46_code 13 = .ok (.ifCond .eq (5), 3) := F_MD_dentOf_0.2.2.2.2.2.2.2.2.2.1
theorem d_MD_dentOf_16 : decode prog_12_method_46_code 16 = .ok (.iload_n 2, 1) := F_MD_dentOf_0.2.2.2.2.2.2.2.2.2.2.1
theorem d_MD_dentOf_17 : decode prog_12_method_46_code 17 = .ok (.ireturn, 1) := F_MD_dentOf_0.2.2.2.2.2.2.2.2.2.2.2.1
theorem d_MD_dentOf_18 : decode prog_12_method_46_code 18 = .ok (.iinc 2 (1), 3) := F_MD_dentOf_0.2.2.2.2.2.2.2.2.2.2.2.2.1
theorem d_MD_dentOf_21 : decode prog_12_method_46_code 21 = .ok (.goto (-19), 3) := F_MD_dentOf_0.2.2.2.2.2.2.2.2.2.2.2.2.2.1
theorem d_MD_dentOf_24 : decode prog_12_method_46_code 24 = .ok (.bipush (-2), 2) := F_MD_dentOf_0.2.2.2.2.2.2.2.2.2.2.2.2.2.2.1
theorem d_MD_dentOf_26 : decode prog_12_method_46_code 26 = .ok (.ireturn, 1) := F_MD_dentOf_0.2.2.2.2.2.2.2.2.2.2.2.2.2.2.2.1
theorem F_MD_isDent_0 : Jvm.Free.DS.Facts prog_12_method_45_code 0 [(.iload_n 2, 1), (.iconst 1, 1), (.iadd, 1), (.iconst 4, 1), (.irem, 1), (.istore_n 3, 1), (.iload_n 2, 1), (.iconst 2, 1), (.iadd, 1), (.iconst 4, 1), (.irem, 1), (.istore 4, 2), (.iload_n 2, 1), (.iconst 3, 1), (.iadd, 1), (.iconst 4, 1), (.irem, 1), (.istore 5, 2), (.aload_n 0, 1), (.getfield 15, 3), (.iload_n 1, 1), (.iload_n 3, 1), (.iload 4, 2), (.iload_n 2, 1), (.invokestatic 161, 3), (.ifCond .le (7), 3), (.iconst 1, 1), (.goto (4), 3), (.iconst 0, 1), (.istore 6, 2), (.aload_n 0, 1), (.getfield 15, 3)] := Jvm.Free.DS.facts 0 _ (by decide +kernel) (by decide +kernel)
theorem d_MD_isDent_0 : decode prog_12_method_45_code 0 = .ok (.iload_n 2, 1) := F_MD_isDent_0.1
theorem d_MD_isDent_1 : decode prog_12_method_45_code 1 = .ok (.iconst 1, 1) := F_MD_isDent_0.2.1
theorem d_MD_isDent_2 : decode prog_12_method_45_code 2 = .ok (.iadd, 1) := F_MD_isDent_0.2.2.1
theorem d_MD_isDent_3 : decode prog_12_method_45_code 3 = .ok (.iconst 4, 1) := F_MD_isDent_0.2.2.2.1
theorem d_MD_isDent_4 : decode prog_12_method_45_code 4 = .ok (.irem, 1) := F_MD_isDent_0.2.2.2.2.1
theorem d_MD_isDent_5 : decode prog_12_method_45_code 5 = .ok (.istore_n 3, 1) := F_MD_isDent_0.2.2.2.2.2.1
theorem d_MD_isDent_6 : decode prog_12_method_45_code 6 = .ok (.iload_n 2, 1) := F_MD_isDent_0.2.2.2.2.2.2.1
theorem d_MD_isDent_7 : decode prog_12_method_45_code 7 = .ok (.iconst 2, 1) := F_MD_isDent_0.2.2.2.2.2.2.2.1
theorem d_MD_isDent_8 : decode prog_12_method_45_code 8 = .ok (.iadd, 1) := F_MD_isDent_0.2.2.2.2.2.2.2.2.1
theorem d_MD_isDent_9 : decode prog_12_method_45_code 9 = .ok (.iconst 4, 1) := F_MD_isDent_0.2.2.2.2.2.2.2.2.2.1
theorem d_MD_isDent_10 : decode prog_12_method_45_code 10 = .ok (.irem, 1) := F_MD_isDent_0.2.2.2.2.2.2.2.2.2.2.1
theorem d_MD_isDent_11 : decode prog_12_method_45_code 11 = .ok (.istore 4, 2) := F_MD_isDent_0.2.2.2.2.2.2.2.2.2.2.2.1
theorem d_MD_isDent_13 : decode prog_12_method_45_code 13 = .ok (.iload_n 2, 1) := F_MD_isDent_0.2.2.2.2.2.2.2.2.2.2.2.2.1
theorem d_MD_isDent_14 : decode prog_12_method_45_code 14 = .ok (.iconst 3, 1) := F_MD_isDent_0.2.2.2.2.2.2.2.2.2.2.2.2.2.1
theorem d_MD_isDent_15 : decode prog_12_method_45_code 15 = .ok (.iadd, 1) := F_MD_isDent_0.2.2.2.2.2.2.2.2.2.2.2.2.2.2.1
theorem d_MD_isDent_16 : decode prog_12_method_45_code 16 = .ok (.iconst 4, 1) := F_MD_isDent_0.2.2.2.2.2.2.2.2.2.2.2.2.2.2.2.1
theorem d_MD_isDent_17 : decode prog_12_method_45_code 17 = .ok (.irem, 1) := F_MD_isDent_0.2.2.2.2.2.2.2.2.2.2.2.2.2.2.2.2.1
theorem d_MD_isDent_18 : decode prog_12_method_45_code 18 = .ok (.istore 5, 2) := F_MD_isDent_0.2.2.2.2.2.2.2.2.2.2.2.2.2.2.2.2.2.1
theorem d_MD_isDent_20 : decode prog_12_method_45_code 20 = .ok (.aload_n 0, 1) := F_MD_isDent_0.2.2.2.2.2.2.2.2.2.2.2.2.2.2.2.2.2.2.1
theorem d_MD_isDent_21 : decode prog_12_method_45_code 21 = .ok (.getfield 15, 3) := F_MD_isDent_0.2.2.2.2.2.2.2.2.2.2.2.2.2.2.2.2.2.2.2.1
theorem d_MD_isDent_24 : decode prog_12_method_45_code 24 = .ok (.iload_n 1, 1) := F_MD_isDent_0.2.2.2.2.2.2.2.2.2.2.2.2.2.2.2.2.2.2.2.2.1
theorem d_MD_isDent_25 : decode prog_12_method_45_code 25 = .ok (.iload_n 3, 1) := F_MD_isDent_0.2.2.2.2.2.2.2.2.2.2.2.2.2.2.2.2.2.2.2.2.2.1
theorem d_MD_isDent_26 : decode prog_12_method_45_code 26 = .ok (.iload 4, 2) := F_MD_isDent_0.2.2.2.2.2.2.2.2.2.2.2.2.2.2.2.2.2.2.2.2.2.2.1
theorem d_MD_isDent_28 : decode prog_12_method_45_code 28 = .ok (.iload_n 2, 1) := F_MD_isDent_0.2.2.2.2.2.2.2.2.2.2.2.2.2.2.2.2.2.2.2.2.2.2.2.1
theorem d_MD_isDent_29 : decode prog_12_method_45_code 29 = .ok (.invokestatic 161, 3) := F_MD_isDent_0.2.2.2.2.2.2.2.2.2.2.2.2.2.2.2.2.2.2.2.2.2.2.2.2.1
theorem d_MD_isDent_32 : decode prog_12_method_45_code 32 = .ok (.ifCond .le (7), 3) := F_MD_isDent_0.2.2.2.2.2.2.2.2.2.2.2.2.2.2.2.2.2.2.2.2.2.2.2.2.2.1
theorem d_MD_isDent_35 : decode prog_12_method_45_code 35 = .ok (.iconst 1, 1) := F_MD_isDent_0.2.2.2.2.2.2.2.2.2.2.2.2.2.2.2.2.2.2.2.2.2.2.2.2.2.2.1
theorem d_MD_isDent_36 : decode prog_12_method_45_code 36 = .ok (.goto (4), 3) := F_MD_isDent_0.2.2.2.2.2.2.2.2.2.2.2.2.2.2.2.2.2.2.2.2.2.2.2.2.2.2.2.1
theorem d_MD_isDent_39 : decode prog_12_method_45_code 39 = .ok (.iconst 0, 1) := F_MD_isDent_0.2.2.2.2.2.2.2.2.2.2.2.2.2.2.2.2.2.2.2.2.2.2.2.2.2.2.2.2.1
theorem d_MD_isDent_40 : decode prog_12_method_45_code 40 = .ok (.istore 6, 2) := F_MD_isDent_0.2.2.2.2.2.2.2.2.2.2.2.2.2.2.2.2.2.2.2.2.2.2.2.2.2.2.2.2.2.1
theorem d_MD_isDent_42 : decode prog_12_method_45_code 42 = .ok (.aload_n 0, 1) := F_MD_isDent_0.2.2.2.2.2.2.2.2.2.2.2.2.2.2.2.2.2.2.2.2.2.2.2.2.2.2.2.2.2.2.1
theorem d_MD_isDent_43 : decode prog_12_method_45_code 43 = .ok (.getfield 15, 3) := F_MD_isDent_0.2.2.2.2.2.2.2.2.2.2.2.2.2.2.2.2.2.2.2.2.2.2.2.2.2.2.2.2.2.2.2.1
theorem F_MD_isDent_46 : Jvm.Free.DS.Facts prog_12_method_45_code 46 [(.iload_n 1, 1), (.iload 4, 2), (.iload 5, 2), (.iload_n 2, 1), (.invokestatic 161, 3), (.ifCond .le (7), 3), (.iconst 1, 1), (.goto (4), 3), (.iconst 0, 1), (.iload 6, 2), (.if_icmp .ne (32), 3), (.aload_n 0, 1), (.getfield 15, 3), (.iload_n 1, 1), (.iload 5, 2), (.iload_n 3, 1), (.iload_n 2, 1), (.invokestatic 161, 3), (.ifCond .le (7), 3), (.iconst 1, 1), (.goto (4), 3), (.iconst 0, 1), (.iload 6, 2), (.if_icmp .ne (7), 3), (.iconst 1, 1), (.goto (4), 3), (.iconst 0, 1), (.ireturn, 1)] := Jvm.Free.DS.facts 46 _ (by decide +kernel) (by decide +kernel)
theorem d_MD_isDent_46 : decode prog_12_method_45_code 46 = .ok (.iload_n 1, 1) := F_MD_isDent_46.1
theorem d_MD_isDent_47 : decode prog_12_method_45_code 47 = .ok (.iload 4, 2) := F_MD_isDent_46.2.1
theorem d_MD_isDent_49 : decode prog_12_method_45_code 49 = .ok (.iload 5, 2) := F_MD_isDent_46.2.2.1
theorem d_MD_isDent_51 : decode prog_12_method_45_code 51 = .ok (.iload_n 2, 1) := F_MD_isDent_46.2.2.2.1
theorem d_MD_isDent_52 : decode prog_12_method_45_code 52 = .ok (.invokestatic 161, 3) := F_MD_isDent_46.2.2.2.2.1
theorem d_MD_isDent_55 : decode prog_12_method_45_code 55 = .ok (.ifCond .le (7), 3) := F_MD_isDent_46.2.2.2.2.2.1
theorem d_MD_isDent_58 : decode prog_12_method_45_code 58 = .ok (.iconst 1, 1) := F_MD_isDent_46.2.2.2.2.2.2.1
theorem d_MD_isDent_59 : decode prog_12_method_45_code 59 = .ok (.goto (4), 3) := F_MD_isDent_46.2.2.2.2.2.2.2.1
theorem d_MD_isDent_62 : decode prog_12_method_45_code 62 = .ok (.iconst 0, 1) := F_MD_isDent_46.2.2.2.2.2.2.2.2.1
theorem d_MD_isDent_63 : decode prog_12_method_45_code 63 = .ok (.iload 6, 2) := F_MD_isDent_46.2.2.2.2.2.2.2.2.2.1
theorem d_MD_isDent_65 : decode prog_12_method_45_code 65 = .ok (.if_icmp .ne (32), 3) := F_MD_isDent_46.2.2.2.2.2.2.2.2.2.2.1
theorem d_MD_isDent_68 : decode prog_12_method_45_code 68 = .ok (.aload_n 0, 1) := F_MD_isDent_46.2.2.2.2.2.2.2.2.2.2.2.1
theorem d_MD_isDent_69 : decode prog_12_method_45_code 69 = .ok (.getfield 15, 3) := F_MD_isDent_46.2.2.2.2.2.2.2.2.2.2.2.2.1
theorem d_MD_isDent_72 : decode prog_12_method_45_code 72 = .ok (.iload_n 1, 1) := F_MD_isDent_46.2.2.2.2.2.2.2.2.2.2.2.2.2.1
theorem d_MD_isDent_73 : decode prog_12_method_45_code 73 = .ok (.iload 5, 2) := F_MD_isDent_46.2.2.2.2.2.2.2.2.2.2.2.2.2.2.1
theorem d_MD_isDent_75 : decode prog_12_method_45_code 75 = .ok (.iload_n 3, 1) := F_MD_isDent_46.2.2.2.2.2.2.2.2.2.2.2.2.2.2.2.1
theorem d_MD_isDent_76 : decode prog_12_method_45_code 76 = .ok (.iload_n 2, 1) := F_MD_isDent_46.2.2.2.2.2.2.2.2.2.2.2.2.2.2.2.2.1
theorem d_MD_isDent_77 : decode prog_12_method_45_code 77 = .ok (.invokestatic 161, 3) := F_MD_isDent_46.2.2.2.2.2.2.2.2.2.2.2.2.2.2.2.2.2.1
theorem d_MD_isDent_80 : decode prog_12_method_45_code 80 = .ok (.ifCond .le (7), 3) := F_MD_isDent_46.2.2.2.2.2.2.2.2.2.2.2.2.2.2.2.2.2.2.1
theorem d_MD_isDent_83 : decode prog_12_method_45_code 83 = .ok (.iconst 1, 1) := F_MD_isDent_46.2.2.2.2.2.2.2.2.2.2.2.2.2.2.2.2.2.2.2.1
theorem d_MD_isDent_84 : decode prog_12_method_45_code 84 = .ok (.goto (4), 3) := F_MD_isDent_46.2.2.2.2.2.2.2.2.2.2.2.2.2.2.2.2.2.2.2.2.1
theorem d_MD_isDent_87 : decode prog_12_method_45_code 87 = .ok (.iconst 0, 1) := F_MD_isDent_46.2.2.2.2.2.2.2.2.2.2.2.2.2.2.2.2.2.2.2.2.2.1
theorem d_MD_isDent_88 : decode prog_12_method_45_code 88 = .ok (.iload 6, 2) := F_MD_isDent_46.2.2.2.2.2.2.2.2.2.2.2.2.2.2.2.2.2.2.2.2.2.2.1
theorem d_MD_isDent_90 : decode prog_12_method_45_code 90 = .ok (.if_icmp .ne (7), 3) := F_MD_isDent_46.2.2.2.2.2.2.2.2.2.2.2.2.2.2.2.2.2.2.2.2.2.2.2.1
theorem d_MD_isDent_93 : decode prog_12_method_45_code 93 = .ok (.iconst 1, 1) := F_MD_isDent_46.2.2.2.2.2.2.2.2.2.2.2.2.2.2.2.2.2.2.2.2.2.2.2.2.1
theorem d_MD_isDent_94 : decode prog_12_method_45_code 94 = .ok (.goto (4), 3) := F_MD_isDent_46.2.2.2.2.2.2.2.2.2.2.2.2.2.2.2.2.2.2.2.2.2.2.2.2.2.1
theorem d_MD_isDent_97 : decode prog_12_method_45_code 97 = .ok (.iconst 0, 1) := F_MD_isDent_46.2.2.2.2.2.2.2.2.2.2.2.2.2.2.2.2.2.2.2.2.2.2.2.2.2.2.1
theorem d_MD_isDent_98 : decode prog_12_method_45_code 98 = .ok (.ireturn, 1) := F_MD_isDent_46.2.2.2.2.2.2.2.2.2.2.2.2.2.2.2.2.2.2.2.2.2.2.2.2.2.2.2.1
theorem F_MD_doCross_0 : Jvm.Free.DS.Facts prog_12_method_47_code 0 [(.aload_n 0, 1), (.getfield 15, 3), (.iload_n 1, 1), (.iload_n 2, 1), (.iload_n 3, 1), (.iload 4, 2), (.invokestatic 161, 3), (.ifCond .le (7), 3), (.iconst 1, 1), (.goto (4), 3), (.iconst 0, 1), (.aload_n 0, 1), (.getfield 15, 3), (.iload_n 1, 1), (.iload_n 2, 1), (.iload_n 3, 1), (.iload 5, 2), (.invokestatic 161, 3), (.ifCond .le (7), 3), (.iconst 1, 1), (.goto (4), 3), (.iconst 0, 1), (.if_icmp .eq (7), 3), (.iconst 1, 1), (.goto (4), 3), (.iconst 0, 1), (.istore 6, 2), (.iload 6, 2), (.ifCond .eq (52), 3), (.aload_n 0, 1), (.getfield 15, 3), (.iload_n 1, 1)] := Jvm.Free.DS.facts 0 _ (by decide +kernel) (by decide +kernel)
theorem d_MD_doCross_0 : decode prog_12_method_47_code 0 = .ok (.aload_n 0, 1) := F_MD_doCross_0.1
theorem d_MD_doCross_1 : decode prog_12_method_47_code 1 = .ok (.getfield 15, 3) := F_MD_doCross_0.2.1
theorem d_MD_doCross_4 : decode prog_12_method_47_code 4 = .ok (.iload_n 1, 1) := F_MD_doCross_0.2.2.1
theorem d_MD_doCross_5 : decode prog_12_method_47_code 5 = .ok (.iload_n 2, 1) := F_MD_doCross_0.2.2.2.1
theorem d_MD_doCross_6 : decode prog_12_method_47_code 6 = .ok (.iload_n 3, 1) := F_MD_doCross_0.2.2.2.2.1
theorem d_MD_doCross_7 : decode prog_12_method_47_code 7 = .ok (.iload 4, 2) := F_MD_doCross_0.2.2.2.2.2.1
theorem d_MD_doCross_9 : decode prog_12_method_47_code 9 = .ok (.invokestatic 161, 3) := F_MD_doCross_0.2.2.2.2.2.2.1
theorem d_MD_doCross_12 : decode prog_12_method_47_code 12 = .ok (.ifCond .le (7), 3) := F_MD_doCross_0.2.2.2.2.2.2.2.1
theorem d_MD_doCross_15 : decode prog_12_method_47_code 15 = .ok (.iconst 1, 1) := F_MD_doCross_0.2.2.2.2.2.2.2.2.1
theorem d_MD_doCross_16 : decode prog_12_method_47_code 16 = .ok (.goto (4), 3) := F_MD_doCross_0.2.2.2.2.2.2.2.2.2.1
theorem d_MD_doCross_19 : decode prog_12_method_47_code 19 = .ok (.iconst 0, 1) := F_MD_doCross_0.2.2.2.2.2.2.2.2.2.2.1
theorem d_MD_doCross_20 : decode prog_12_method_47_code 20 = .ok (.aload_n 0, 1) := F_MD_doCross_0.2.2.2.2.2.2.2.2.2.2.2.1
theorem d_MD_doCross_21 : decode prog_12_method_47_code 21 = .ok (.getfield 15, 3) := F_MD_doCross_0.2.2.2.2.2.2.2.2.2.2.2.2.1
theorem d_MD_doCross_24 : decode prog_12_method_47_code 24 = .ok (.iload_n 1, 1) := F_MD_doCross_0.2.2.2.2.2.2.2.2.2.2.2.2.2.1
theorem d_MD_doCross_25 : decode prog_12_method_47_code 25 = .ok (.iload_n 2, 1) := F_MD_doCross_0.2.2.2.2.2.2.2.2.2.2.2.2.2.2.1
theorem d_MD_doCross_26 : decode prog_12_method_47_code 26 = .ok (.iload_n 3, 1) := F_MD_doCross_0.2.2.2.2.2.2.2.2.2.2.2.2.2.2.2.1
theorem d_MD_doCross_27 : decode prog_12_method_47_code 27 = .ok (.iload 5, 2) := F_MD_doCross_0.2.2.2.2.2.2.2.2.2.2.2.2.2.2.2.2.1
theorem d_MD_doCross_29 : decode prog_12_method_47_code 29 = .ok (.invokestatic 161, 3) := F_MD_doCross_0.2.2.2.2.2.2.2.2.2.2.2.2.2.2.2.2.2.1
theorem d_MD_doCross_32 : decode prog_12_method_47_code 32 = .ok (.ifCond .le (7), 3) := F_MD_doCross_0.2.2.2.2.2.2.2.2.2.2.2.2.2.2.2.2.2.2.1
theorem d_MD_doCross_35 : decode prog_12_method_47_code 35 = .ok (.iconst 1, 1) := F_MD_doCross_0.2.2.2.2.2.2.2.2.2.2.2.2.2.2.2.2.2.2.2.1
theorem d_MD_doCross_36 : decode prog_12_method_47_code 36 = .ok (.goto (4), 3) := F_MD_doCross_0.2.2.2.2.2.2.2.2.2.2.2.2.2.2.2.2.2.2.2.2.1
theorem d_MD_doCross_39 : decode prog_12_method_47_code 39 = .ok (.iconst 0, 1) := F_MD_doCross_0.2.2.2.2.2.2.2.2.2.2.2.2.2.2.2.2.2.2.2.2.2.1
theorem d_MD_doCross_40 : decode prog_12_method_47_code 40 = .ok (.if_icmp .eq (7), 3) := F_MD_doCross_0.2.2.2.2.2.2.2.2.2.2.2.2.2.2.2.2.2.2.2.2.2.2.1
theorem d_MD_doCross_43 : decode prog_12_method_47_code 43 = .ok (.iconst 1, 1) := F_MD_doCross_0.2.2.2.2.2.2.2.2.2.2.2.2.2.2.2.2.2.2.2.2.2.2.2.1
theorem d_MD_doCross_44 : decode prog_12_method_47_code 44 = .ok (.goto (4), 3) := F_MD_doCross_0.2.2.2.2.2.2.2.2.2.2.2.2.2.2.2.2.2.2.2.2.2.2.2.2.1
theorem d_MD_doCross_47 : decode prog_12_method_47_code 47 = .ok (.iconst 0, 1) := F_MD_doCross_0.2.2.2.2.2.2.2.2.2.2.2.2.2.2.2.2.2.2.2.2.2.2.2.2.2.1
theorem d_MD_doCross_48 : decode prog_12_method_47_code 48 = .ok (.istore 6, 2) := F_MD_doCross_0.2.2.2.2.2.2.2.2.2.2.2.2.2.2.2.2.2.2.2.2.2.2.2.2.2.2.1
theorem d_MD_doCross_50 : decode prog_12_method_47_code 50 = .ok (.iload 6, 2) := F_MD_doCross_0.2.2.2.2.2.2.2.2.2.2.2.2.2.2.2.2.2.2.2.2.2.2.2.2.2.2.2.1
theorem d_MD_doCross_52 : decode prog_12_method_47_code 52 = .ok (.ifCond .eq (52), 3) := F_MD_doCross_0.2.2.2.2.2.2.2.2.2.2.2.2.2.2.2.2.2.2.2.2.2.2.2.2.2.2.2.2.1
theorem d_MD_doCross_55 : decode prog_12_method_47_code 55 = .ok (.aload_n 0, 1) := F_MD_doCross_0.2.2.2.2.2.2.2.2.2.2.2.2.2.2.2.2.2.2.2.2.2.2.2.2.2.2.2.2.2.1
theorem d_MD_doCross_56 : decode prog_12_method_47_code 56 = .ok (.getfield 15, 3) := F_MD_doCross_0.2.2.2.2.2.2.2.2.2.2.2.2.2.2.2.2.2.2.2.2.2.2.2.2.2.2.2.2.2.2.1
theorem d_MD_doCross_59 : decode prog_12_method_47_code 59 = .ok (.iload_n 1, 1) := F_MD_doCross_0.2.2.2.2.2.2.2.2.2.2.2.2.2.2.2.2.2.2.2.2.2.2.2.2.2.2.2.2.2.2.2.1
theorem F_MD_doCross_60 : Jvm.Free.DS.Facts prog_12_method_47_code 60 [(.iload 4, 2), (.iload 5, 2), (.iload_n 2, 1), (.invokestatic 161, 3), (.ifCond .le (7), 3), (.iconst 1, 1), (.goto (4), 3), (.iconst 0, 1), (.aload_n 0, 1), (.getfield 15, 3), (.iload_n 1, 1), (.iload 4, 2), (.iload 5, 2), (.iload_n 3, 1), (.invokestatic 161, 3), (.ifCond .le (7), 3), (.iconst 1, 1), (.goto (4), 3), (.iconst 0, 1), (.if_icmp .eq (7), 3), (.iconst 1, 1), (.goto (4), 3), (.iconst 0, 1), (.ireturn, 1)] := Jvm.Free.DS.facts 60 _ (by decide +kernel) (by decide +kernel)
theorem d_MD_doCross_60 : decode prog_12_method_47_code 60 = .ok (.iload 4, 2) := F_MD_doCross_60.1
theorem d_MD_doCross_62 : decode prog_12_method_47_code 62 = .ok (.iload 5, 2) := F_MD_doCross_60.2.1
theorem d_MD_doCross_64 : decode prog_12_method_47_code 64 = .ok (.iload_n 2, 1) := F_MD_doCross_60.2.2.1
theorem d_MD_doCross_65 : decode prog_12_method_47_code 65 = .ok (.invokestatic 161, 3) := F_MD_doCross_60.2.2.2.1
theorem d_MD_doCross_68 : decode prog_12_method_47_code 68 = .ok (.ifCond .le (7), 3) := F_MD_doCross_60.2.2.2.2.1
theorem d_MD_doCross_71 : decode prog_12_method_47_code 71 = .ok (.iconst 1, 1) := F_MD_doCross_60.2.2.2.2.2.1
theorem d_MD_doCross_72 : decode prog_12_method_47_code 72 = .ok (.goto (4), 3) := F_MD_doCross_60.2.2.2.2.2.2.1
theorem d_MD_doCross_75 : decode prog_12_method_47_code 75 = .ok (.iconst 0, 1) := F_MD_doCross_60.2.2.2.2.2.2.2.1
theorem d_MD_doCross_76 : decode prog_12_method_47_code 76 = .ok (.aload_n 0, 1) := F_MD_doCross_60.2.2.2.2.2.2.2.2.1
theorem d_MD_doCross_77 : decode prog_12_method_47_code 77 = .ok (.getfield 15, 3) := F_MD_doCross_60.2.2.2.2.2.2.2.2.2.1
theorem d_MD_doCross_80 : decode prog_12_method_47_code 80 = .ok (.iload_n 1, 1) := F_MD_doCross_60.2.2.2.2.2.2.2.2.2.2.1
theorem d_MD_doCross_81 : decode prog_12_method_47_code 81 = .ok (.iload 4, 2) := F_MD_doCross_60.2.2.2.2.2.2.2.2.2.2.2.1
theorem d_MD_doCross_83 : decode prog_12_method_47_code 83 = .ok (.iload 5, 2) := F_MD_doCross_60.2.2.2.2.2.2.2.2.2.2.2.2.1
theorem d_MD_doCross_85 : decode prog_12_method_47_code 85 = .ok (.iload_n 3, 1) := F_MD_doCross_60.2.2.2.2.2.2.2.2.2.2.2.2.2.1
theorem d_MD_doCross_86 : decode prog_12_method_47_code 86 = .ok (.invokestatic 161, 3) := F_MD_doCross_60.2.2.2.2.2.2.2.2.2.2.2.2.2.2.1
theorem d_MD_doCross_89 : decode prog_12_method_47_code 89 = .ok (.ifCond .le (7), 3) := F_MD_doCross_60.2.2.2.2.2.2.2.2.2.2.2.2.2.2.2.1
theorem d_MD_doCross_92 : decode prog_12_method_47_code 92 = .ok (.iconst 1, 1) := F_MD_doCross_60.2.2.2.2.2.2.2.2.2.2.2.2.2.2.2.2.1
theorem d_MD_doCross_93 : decode prog_12_method_47_code 93 = .ok (.goto (4), 3) := F_MD_doCross_60.2.2.2.2.2.2.2.2.2.2.2.2.2.2.2.2.2.1
theorem d_MD_doCross_96 : decode prog_12_method_47_code 96 = .ok (.iconst 0, 1) := F_MD_doCross_60.2.2.2.2.2.2.2.2.2.2.2.2.2.2.2.2.2.2.1
theorem d_MD_doCross_97 : decode prog_12_method_47_code 97 = .ok (.if_icmp .eq (7), 3) := F_MD_doCross_60.2.2.2.2.2.2.2.2.2.2.2.2.2.2.2.2.2.2.2.1
theorem d_MD_doCross_100 : decode prog_12_method_47_code 100 = .ok (.iconst 1, 1) := F_MD_doCross_60.2.2.2.2.2.2.2.2.2.2.2.2.2.2.2.2.2.2.2.2.1
theorem d_MD_doCross_101 : decode prog_12_method_47_code 101 = .ok (.goto (4), 3) := F_MD_doCross_60.2.2.2.2.2.2.2.2.2.2.2.2.2.2.2.2.2.2.2.2.2.1
theorem d_MD_doCross_104 : decode prog_12_method_47_code 104 = .ok (.iconst 0, 1) := F_MD_doCross_60.2.2.2.2.2.2.2.2.2.2.2.2.2.2.2.2.2.2.2.2.2.2.1
theorem d_MD_doCross_105 : decode prog_12_method_47_code 105 = .ok (.ireturn, 1) := F_MD_doCross_60.2.2.2.2.2.2.2.2.2.2.2.2.2.2.2.2.2.2.2.2.2.2.2.1
theorem F_MD_dent_0 : Jvm.Free.DS.Facts prog_12_method_49_code 0 [(.aload_n 0, 1), (.iconst 0, 1), (.putfield 74, 3), (.aload_n 0, 1), (.iload_n 1, 1), (.invokevirtual 238, 3), (.ifCond .eq (11), 3), (.aload_n 0, 1), (.iload_n 1, 1), (.invokevirtual 258, 3), (.goto (4), 3), (.iconst (-1), 1), (.ireturn, 1)] := Jvm.Free.DS.facts 0 _ (by decide +kernel) (by decide +kernel)
theorem d_MD_dent_0 : decode prog_12_method_49_code 0 = .ok (.aload_n 0, 1) := F_MD_dent_0.1
theorem d_MD_dent_1 : decode prog_12_method_49_code 1 = .ok (.iconst 0, 1) := F_MD_dent_0.2.1
theorem d_MD_dent_2 : decode prog_12_method_49_code 2 = .ok (.putfield 74, 3) := F_MD_dent_0.2.2.1
theorem d_MD_dent_5 : decode prog_12_method_49_code 5 = .ok (.aload_n 0, 1) := F_MD_dent_0.2.2.2.1
theorem d_MD_dent_6 : decode prog_12_method_49_code 6 = .ok (.iload_n 1, 1) := F_MD_dent_0.2.2.2.2.1
theorem d_MD_dent_7 : decode prog_12_method_49_code 7 = .ok (.invokevirtual 238, 3) := F_MD_dent_0.2.2.2.2.2.1
theorem d_MD_dent_10 : decode prog_12_method_49_code 10 = .ok (.ifCond .eq (11), 3) := F_MD_dent_0.2.2.2.2.2.2.1
theorem d_MD_dent_13 : decode prog_12_method_49_code 13 = .ok (.aload_n 0, 1) := F_MD_dent_0.2.2.2.2.2.2.2.1
theorem d_MD_dent_14 : decode prog_12_method_49_code 14 = .ok (.iload_n 1, 1) := F_MD_dent_0.2.2.2.2.2.2.2.2.1
theorem d_MD_dent_15 : decode prog_12_method_49_code 15 = .ok (.invokevirtual 258, 3) := F_MD_dent_0.2.2.2.2.2.2.2.2.2.1
theorem d_MD_dent_18 : decode prog_12_method_49_code 18 = .ok (.goto (4), 3) := F_MD_dent_0.2.2.2.2.2.2.2.2.2.2.1
theorem d_MD_dent_21 : decode prog_12_method_49_code 21 = .ok (.iconst (-1), 1) := F_MD_dent_0.2.2.2.2.2.2.2.2.2.2.2.1
theorem d_MD_dent_22 : decode prog_12_method_49_code 22 = .ok (.ireturn, 1) := F_MD_dent_0.2.2.2.2.2.2.2.2.2.2.2.2.1
theorem F_MD_area_0 : Jvm.Free.DS.Facts prog_12_method_50_code 0 [(.aload_n 0, 1), (.iconst 0, 1), (.putfield 74, 3), (.aload_n 0, 1), (.iload_n 1, 1), (.invokevirtual 238, 3), (.ifCond .eq (29), 3), (.aload_n 0, 1), (.getfield 15, 3), (.iload_n 1, 1), (.iconst 0, 1), (.iconst 1, 1), (.iconst 2, 1), (.invokestatic 161, 3), (.aload_n 0, 1), (.getfield 15, 3), (.iload_n 1, 1), (.iconst 0, 1), (.iconst 2, 1), (.iconst 3, 1), (.invokestatic 161, 3), (.iadd, 1), (.goto (6), 3), (.ldc_w 265, 3), (.ireturn, 1)] := Jvm.Free.DS.facts 0 _ (by decide +kernel) (by decide +kernel)
theorem d_MD_area_0 : decode prog_12_method_50_code 0 = .ok (.aload_n 0, 1) := F_MD_area_0.1
theorem d_MD_area_1 : decode prog_12_method_50_code 1 = .ok (.iconst 0, 1) := F_MD_area_0.2.1
theorem d_MD_area_2 : decode prog_12_method_50_code 2 = .ok (.putfield 74, 3) := F_MD_area_0.2.2.1
theorem d_MD_area_5 : decode prog_12_method_50_code 5 = .ok (.aload_n 0, 1) := F_MD_area_0.2.2.2.1
theorem d_MD_area_6 : decode prog_12_method_50_code 6 = .ok (.iload_n 1, 1) := F_MD_area_0.2.2.2.2.1
theorem d_MD_area_7 : decode prog_12_method_50_code 7 = .ok (.invokevirtual 238, 3) := F_MD_area_0.2.2.2.2.2.1
theorem d_MD_area_10 : decode prog_12_method_50_code 10 = .ok (.ifCond .eq (29), 3) := F_MD_area_0.2.2.2.2.2.2.1
theorem d_MD_area_13 : decode prog_12_method_50_code 13 = .ok (.aload_n 0, 1) := F_MD_area_0.2.2.2.2.2.2.2.1
theorem d_MD_area_14 : decode prog_12_method_50_code 14 = .ok (.getfield 15, 3) := F_MD_area_0.2.2.2.2.2.2.2.2.1
theorem d_MD_area_17 : decode prog_12_method_50_code 17 = .ok (.iload_n 1, 1) := F_MD_area_0.2.2.2.2.2.2.2.2.2.1
theorem d_MD_area_18 : decode prog_12_method_50_code 18 = .ok (.iconst 0, 1) := F_MD_area_0.2.2.2.2.2.2.2.2.2.2.1
theorem d_MD_area_19 : decode prog_12_method_50_code 19 = .ok (.iconst 1, 1) := F_MD_area_0.2.2.2.2.2.2.2.2.2.2.2.1
theorem d_MD_area_20 : decode prog_12_method_50_code 20 = .ok (.iconst 2, 1) := F_MD_area_0.2.2.2.2.2.2.2.2.2.2.2.2.1
theorem d_MD_area_21 : decode prog_12_method_50_code 21 = .ok (.invokestatic 161, 3) := F_MD_area_0.2.2.2.2.2.2.2.2.2.2.2.2.2.1
theorem d_MD_area_24 : decode prog_12_method_50_code 24 = .ok (.aload_n 0, 1) := F_MD_area_0.2.2.2.2.2.2.2.2.2.2.2.2.2.2.1
theorem d_MD_area_25 : decode prog_12_method_50_code 25 = .ok (.getfield 15, 3) := F_MD_area_0.2.2.2.2.2.2.2.2.2.2.2.2.2.2.2.1
theorem d_MD_area_28 : decode prog_12_method_50_code 28 = .ok (.iload_n 1, 1) := F_MD_area_0.2.2.2.2.2.2.2.2.2.2.2.2.2.2.2.2.1
theorem d_MD_area_29 : decode prog_12_method_50_code 29 = .ok (.iconst 0, 1) := F_MD_area_0.2.2.2.2.2.2.2.2.2.2.2.2.2.2.2.2.2.1
theorem d_MD_area_30 : decode prog_12_method_50_code 30 = .ok (.iconst 2, 1) := F_MD_area_0.2.2.2.2.2.2.2.2.2.2.2.2.2.2.2.2.2.2.1
theorem d_MD_area_31 : decode prog_12_method_50_code 31 = .ok (.iconst 3, 1) := F_MD_area_0.2.2.2.2.2.2.2.2.2.2.2.2.2.2.2.2.2.2.2.1
theorem d_MD_area_32 : decode prog_12_method_50_code 32 = .ok (.invokestatic 161, 3) := F_MD_area_0.2.2.2.2.2.2.2.2.2.2.2.2.2.2.2.2.2.2.2.2.1
theorem d_MD_area_35 : decode prog_12_method_50_code 35 = .ok (.iadd, 1) := F_MD_area_0.2.2.2.2.2.2.2.2.2.2.2.2.2.2.2.2.2.2.2.2.2.1
theorem d_MD_area_36 : decode prog_12_method_50_code 36 = .ok (.goto (6), 3) := F_MD_area_0.2.2.2.2.2.2.2.2.2.2.2.2.2.2.2.2.2.2.2.2.2.2.1
theorem d_MD_area_39 : decode prog_12_method_50_code 39 = .ok (.ldc_w 265, 3) := F_MD_area_0.2.2.2.2.2.2.2.2.2.2.2.2.2.2.2.2.2.2.2.2.2.2.2.1
theorem d_MD_area_42 : decode prog_12_method_50_code 42 = .ok (.ireturn, 1) := F_MD_area_0.2.2.2.2.2.2.2.2.2.2.2.2.2.2.2.2.2.2.2.2.2.2.2.2.1
theorem F_MD_undo_0 : Jvm.Free.DS.Facts prog_12_method_52_code 0 [(.aload_n 0, 1), (.iconst 0, 1), (.putfield 74, 3), (.aload_n 0, 1), (.getfield 71, 3), (.ifCond .ne (5), 3), (.iconst (-1), 1), (.ireturn, 1), (.aload_n 0, 1), (.dup, 1), (.getfield 71, 3), (.iconst 1, 1), (.isub, 1), (.putfield 71, 3), (.iconst 0, 1), (.istore_n 1, 1), (.iload_n 1, 1), (.sipush (170), 3), (.if_icmp .ge (30), 3), (.aload_n 0, 1), (.getfield 21, 3), (.iload_n 1, 1), (.aload_n 0, 1), (.getfield 28, 3), (.sipush (170), 3), (.aload_n 0, 1), (.getfield 71, 3), (.imul, 1), (.iload_n 1, 1), (.iadd, 1), (.laload, 1), (.lastore, 1)] := Jvm.Free.DS.facts 0 _ (by decide +kernel) (by decide +kernel)
theorem d_MD_undo_0 : decode prog_12_method_52_code 0 = .ok (.aload_n 0, 1) := F_MD_undo_0.1
theorem d_MD_undo_1 : decode prog_12_method_52_code 1 = .ok (.iconst 0, 1) := F_MD_undo_0.2.1
theorem d_MD_undo_2 : decode prog_12_method_52_code 2 = .ok (.putfield 74, 3) := F_MD_undo_0.2.2.1
theorem d_MD_undo_5 : decode prog_12_method_52_code 5 = .ok (.aload_n 0, 1) := F_MD_undo_0.2.2.2.1
theorem d_MD_undo_6 : decode prog_12_method_52_code 6 = .ok (.getfield 71, 3) := F_MD_undo_0.2.2.2.2.1
theorem d_MD_undo_9 : decode prog_12_method_52_code 9 = .ok (.ifCond .ne (5), 3) := F_MD_undo_0.2.2.2.2.2.1
theorem d_MD_undo_12 : decode prog_12_method_52_code 12 = .ok (.iconst (-1), 1) := F_MD_undo_0.2.2.2.2.2.2.1
theorem d_MD_undo_13 : decode prog_12_method_52_code 13 = .ok (.ireturn, 1) := F_MD_undo_0.2.2.2.2.2.2.2.1
theorem d_MD_undo_14 : decode prog_12_method_52_code 14 = .ok (.aload_n 0, 1) := F_MD_undo_0.2.2.2.2.2.2.2.2.1
theorem d_MD_undo_15 : decode prog_12_method_52_code 15 = .ok (.dup, 1) := F_MD_undo_0.2.2.2.2.2.2.2.2.2.1
theorem d_MD_undo_16 : decode prog_12_method_52_code 16 = .ok (.getfield 71, 3) := F_MD_undo_0.2.2.2.2.2.2.2.2.2.2.1
theorem d_MD_undo_19 : decode prog_12_method_52_code 19 = .ok (.iconst 1, 1) := F_MD_undo_0.2.2.2.2.2.2.2.2.2.2.2.1
theorem d_MD_undo_20 : decode prog_12_method_52_code 20 = .ok (.isub, 1) := F_MD_undo_0.2.2.2.2.2.2.2.2.2.2.2.2.1
theorem d_MD_undo_21 : decode prog_12_method_52_code 21 = .ok (.putfield 71, 3) := F_MD_undo_0.2.2.2.2.2.2.2.2.2.2.2.2.2.1
theorem d_MD_undo_24 : decode prog_12_method_52_code 24 = .ok (.iconst 0, 1) := F_MD_undo_0.2.2.2.2.2.2.2.2.2.2.2.2.2.2.1
theorem d_MD_undo_25 : decode prog_12_method_52_code 25 = .ok (.istore_n 1, 1) := F_MD_undo_0.2.2.2.2.2.2.2.2.2.2.2.2.2.2.2.1
theorem d_MD_undo_26 : decode prog_12_method_52_code 26 = .ok (.iload_n 1, 1) := F_MD_undo_0.2.2.2.2.2.2.2.2.2.2.2.2.2.2.2.2.1
theorem d_MD_undo_27 : decode prog_12_method_52_code 27 = .ok (.sipush (170), 3) := F_MD_undo_0.2.2.2.2.2.2.2.2.2.2.2.2.2.2.2.2.2.1
theorem d_MD_undo_30 : decode prog_12_method_52_code 30 = .ok (.if_icmp .ge (30), 3) := F_MD_undo_0.2.2.2.2.2.2.2.2.2.2.2.2.2.2.2.2.2.2.1
theorem d_MD_undo_33 : decode prog_12_method_52_code 33 = .ok (.aload_n 0, 1) := F_MD_undo_0.2.2.2.2.2.2.2.2.2.2.2.2.2.2.2.2.2.2.2.1
theorem d_MD_undo_34 : decode prog_12_method_52_code 34 = .ok (.getfield 21, 3) := F_MD_undo_0.2.2.2.2.2.2.2.2.2.2.2.2.2.2.2.2.2.2.2.2.1
theorem d_MD_undo_37 : decode prog_12_method_52_code 37 = .ok (.iload_n 1, 1) := F_MD_undo_0.2.2.2.2.2.2.2.2.2.2.2.2.2.2.2.2.2.2.2.2.2.1
theorem d_MD_undo_38 : decode prog_12_method_52_code 38 = .ok (.aload_n 0, 1) := F_MD_undo_0.2.2.2.2.2.2.2.2.2.2.2.2.2.2.2.2.2.2.2.2.2.2.1
theorem d_MD_undo_39 : decode prog_12_method_52_code 39 = .ok (.getfield 28, 3) := F_MD_undo_0.2.2.2.2.2.2.2.2.2.2.2.2.2.2.2.2.2.2.2.2.2.2.2.1
theorem d_MD_undo_42 : decode prog_12_method_52_code 42 = .ok (.sipush (170), 3) := F_MD_undo_0.2.2.2.2.2.2.2.2.2.2.2.2.2.2.2.2.2.2.2.2.2.2.2.2.1
theorem d_MD_undo_45 : decode prog_12_method_52_code 45 = .ok (.aload_n 0, 1) := F_MD_undo_0.2.2.2.2.2.2.2.2.2.2.2.2.2.2.2.2.2.2.2.2.2.2.2.2.2.1
theorem d_MD_undo_46 : decode prog_12_method_52_code 46 = .ok (.getfield 71, 3) := F_MD_undo_0.2.2.2.2.2.2.2.2.2.2.2.2.2.2.2.2.2.2.2.2.2.2.2.2.2.2.1
theorem d_MD_undo_49 : decode prog_12_method_52_code 49 = .ok (.imul, 1) := F_MD_undo_0.2.2.2.2.2.2.2.2.2.2.2.2.2.2.2.2.2.2.2.2.2.2.2.2.2.2.2.1
theorem d_MD_undo_50 : decode prog_12_method_52_code 50 = .ok (.iload_n 1, 1) := F_MD_undo_0.2.2.2.2.2.2.2.2.2.2.2.2.2.2.2.2.2.2.2.2.2.2.2.2.2.2.2.2.1
theorem d_MD_undo_51 : decode prog_12_method_52_code 51 = .ok (.iadd, 1) := F_MD_undo_0.2.2.2.2.2.2.2.2.2.2.2.2.2.2.2.2.2.2.2.2.2.2.2.2.2.2.2.2.2.1
theorem d_MD_undo_52 : decode prog_12_method_52_code 52 = .ok (.laload, 1) := F_MD_undo_0.2.2.2.2.2.2.2.2.2.2.2.2.2.2.2.2.2.2.2.2.2.2.2.2.2.2.2.2.2.2.1
theorem d_MD_undo_53 : decode prog_12_method_52_code 53 = .ok (.lastore, 1) := F_MD_undo_0.2.2.2.2.2.2.2.2.2.2.2.2.2.2.2.2.2.2.2.2.2.2.2.2.2.2.2.2.2.2.2.1
theorem F_MD_undo_54 : Jvm.Free.DS.Facts prog_12_method_52_code 54 [(.iinc 1 (1), 3), (.goto (-31), 3), (.aload_n 0, 1), (.getfield 71, 3), (.ireturn, 1)] := Jvm.Free.DS.facts 54 _ (by decide +kernel) (by decide +kernel)
theorem d_MD_undo_54 : decode prog_12_method_52_code 54 = .ok (.iinc 1 (1), 3) := F_MD_undo_54.1
theorem d_MD_undo_57 : decode prog_12_method_52_code 57 = .ok (.goto (-31), 3) := F_MD_undo_54.2.1
theorem d_MD_undo_60 : decode prog_12_method_52_code 60 = .ok (.aload_n 0, 1) := F_MD_undo_54.2.2.1
theorem d_MD_undo_61 : decode prog_12_method_52_code 61 = .ok (.getfield 71, 3) := F_MD_undo_54.2.2.2.1
theorem d_MD_undo_64 : decode prog_12_method_52_code 64 = .ok (.ireturn, 1) := F_MD_undo_54.2.2.2.2.1
theorem F_MD_make_0 : Jvm.Free.DS.Facts prog_12_method_54_code 0 [(.aload_n 0, 1), (.iconst 0, 1), (.putfield 74, 3), (.aload_n 0, 1), (.iload_n 1, 1), (.invokevirtual 238, 3), (.ifCond .eq (11), 3), (.aload_n 0, 1), (.iload_n 2, 1), (.invokevirtual 238, 3), (.ifCond .ne (5), 3), (.iconst (-1), 1), (.ireturn, 1), (.aload_n 0, 1), (.aload_n 0, 1), (.getfield 15, 3), (.iload_n 1, 1), (.iload_n 2, 1), (.invokevirtual 168, 3), (.aload_n 0, 1), (.invokevirtual 271, 3), (.ireturn, 1)] := Jvm.Free.DS.facts 0 _ (by decide +kernel) (by decide +kernel)
theorem d_MD_make_0 : decode prog_12_method_54_code 0 = .ok (.aload_n 0, 1) := F_MD_make_0.1
theorem d_MD_make_1 : decode prog_12_method_54_code 1 = .ok (.iconst 0, 1) := F_MD_make_0.2.1
theorem d_MD_make_2 : decode prog_12_method_54_code 2 = .ok (.putfield 74, 3) := F_MD_make_0.2.2.1
theorem d_MD_make_5 : decode prog_12_method_54_code 5 = .ok (.aload_n 0, 1) := F_MD_make_0.2.2.2.1
theorem d_MD_make_6 : decode prog_12_method_54_code 6 = .ok (.iload_n 1, 1) := F_MD_make_0.2.2.2.2.1
theorem d_MD_make_7 : decode prog_12_method_54_code 7 = .ok (.invokevirtual 238, 3) := F_MD_make_0.2.2.2.2.2.1
theorem d_MD_make_10 : decode prog_12_method_54_code 10 = .ok (.ifCond .eq (11), 3) := F_MD_make_0.2.2.2.2.2.2.1
theorem d_MD_make_13 : decode prog_12_method_54_code 13 = .ok (.aload_n 0, 1) := F_MD_make_0.2.2.2.2.2.2.2.1
theorem d_MD_make_14 : decode prog_12_method_54_code 14 = .ok (.iload_n 2, 1) := F_MD_make_0.2.2.2.2.2.2.2.2.1
theorem d_MD_make_15 : decode prog_12_method_54_code 15 = .ok (.invokevirtual 238, 3) := F_MD_make_0.2.2.2.2.2.2.2.2.2.1
theorem d_MD_make_18 : decode prog_12_method_54_code 18 = .ok (.ifCond .ne (5), 3) := F_MD_make_0.2.2.2.2.2.2.2.2.2.2.1
theorem d_MD_make_21 : decode prog_12_method_54_code 21 = .ok (.iconst (-1), 1) := F_MD_make_0.2.2.2.2.2.2.2.2.2.2.2.1
theorem d_MD_make_22 : decode prog_12_method_54_code 22 = .ok (.ireturn, 1) := F_MD_make_0.2.2.2.2.2.2.2.2.2.2.2.2.1
theorem d_MD_make_23 : decode prog_12_method_54_code 23 = .ok (.aload_n 0, 1) := F_MD_make_0.2.2.2.2.2.2.2.2.2.2.2.2.2.1
theorem d_MD_make_24 : decode prog_12_method_54_code 24 = .ok (.aload_n 0, 1) := F_MD_make_0.2.2.2.2.2.2.2.2.2.2.2.2.2.2.1
theorem d_MD_make_25 : decode prog_12_method_54_code 25 = .ok (.getfield 15, 3) := F_MD_make_0.2.2.2.2.2.2.2.2.2.2.2.2.2.2.2.1
theorem d_MD_make_28 : decode prog_12_method_54_code 28 = .ok (.iload_n 1, 1) := F_MD_make_0.2.2.2.2.2.2.2.2.2.2.2.2.2.2.2.2.1
theorem d_MD_make_29 : decode prog_12_method_54_code 29 = .ok (.iload_n 2, 1) := F_MD_make_0.2.2.2.2.2.2.2.2.2.2.2.2.2.2.2.2.2.1
theorem d_MD_make_30 : decode prog_12_method_54_code 30 = .ok (.invokevirtual 168, 3) := F_MD_make_0.2.2.2.2.2.2.2.2.2.2.2.2.2.2.2.2.2.2.1
theorem d_MD_make_33 : decode prog_12_method_54_code 33 = .ok (.aload_n 0, 1) := F_MD_make_0.2.2.2.2.2.2.2.2.2.2.2.2.2.2.2.2.2.2.2.1
theorem d_MD_make_34 : decode prog_12_method_54_code 34 = .ok (.invokevirtual 271, 3) := F_MD_make_0.2.2.2.2.2.2.2.2.2.2.2.2.2.2.2.2.2.2.2.2.1
theorem d_MD_make_37 : decode prog_12_method_54_code 37 = .ok (.ireturn, 1) := F_MD_make_0.2.2.2.2.2.2.2.2.2.2.2.2.2.2.2.2.2.2.2.2.2.1
theorem F_MD_comes_0 : Jvm.Free.DS.Facts prog_12_method_53_code 0 [(.aload_n 0, 1), (.invokevirtual 172, 3), (.ifCond .eq (6), 3), (.bipush (-2), 2), (.ireturn, 1), (.aload_n 0, 1), (.getfield 21, 3), (.sipush (168), 3), (.laload, 1), (.ldc2_w 266, 3), (.lcmp, 1), (.ifCond .ne (6), 3), (.bipush (-3), 2), (.ireturn, 1), (.aload_n 0, 1), (.invokevirtual 268, 3), (.aload_n 0, 1), (.getfield 21, 3), (.sipush (168), 3), (.laload, 1), (.l2i, 1), (.istore_n 1, 1), (.aload_n 0, 1), (.aload_n 0, 1), (.getfield 21, 3), (.iload_n 1, 1), (.invokevirtual 175, 3), (.aload_n 0, 1), (.getfield 21, 3), (.sipush (168), 3), (.dup2, 1), (.laload, 1)] := Jvm.Free.DS.facts 0 _ (by decide +kernel) (by decide +kernel)
theorem d_MD_comes_0 : decode prog_12_method_53_code 0 = .ok (.aload_n 0, 1) := F_MD_comes_0.1
theorem d_MD_comes_1 : decode prog_12_method_53_code 1 = .ok (.invokevirtual 172, 3) := F_MD_comes_0.2.1
theorem d_MD_comes_4 : decode prog_12_method_53_code 4 = .ok (.ifCond .eq (6), 3) := F_MD_comes_0.2.2.1
theorem d_MD_comes_7 : decode prog_12_method_53_code 7 = .ok (.bipush (-2), 2) := F_MD_comes_0.2.2.2.1
theorem d_MD_comes_9 : decode prog_12_method_53_code 9 = .ok (.ireturn, 1) := F_MD_comes_0.2.2.2.2.1
theorem d_MD_comes_10 : decode prog_12_method_53_code 10 = .ok (.aload_n 0, 1) := F_MD_comes_0.2.2.2.2.2.1
theorem d_MD_comes_11 : decode prog_12_method_53_code 11 = .ok (.getfield 21, 3) := F_MD_comes_0.2.2.2.2.2.2.1
theorem d_MD_comes_14 : decode prog_12_method_53_code 14 = .ok (.sipush (168), 3) := F_MD_comes_0.2.2.2.2.2.2.2.1
theorem d_MD_comes_17 : decode prog_12_method_53_code 17 = .ok (.laload, 1) := F_MD_comes_0.2.2.2.2.2.2.2.2.1
theorem d_MD_comes_18 : decode prog_12_method_53_code 18 = .ok (.ldc2_w 266, 3) := F_MD_comes_0.2.2.2.2.2.2.2.2.2.1
theorem d_MD_comes_21 : decode prog_12_method_53_code 21 = .ok (.lcmp, 1) := F_MD_comes_0.2.2.2.2.2.2.2.2.2.2.1
theorem d_MD_comes_22 : decode prog_12_method_53_code 22 = .ok (.ifCond .ne (6), 3) := F_MD_comes_0.2.2.2.2.2.2.2.2.2.2.2.1
theorem d_MD_comes_25 : decode prog_12_method_53_code 25 = .ok (.bipush (-3), 2) := F_MD_comes_0.2.2.2.2.2.2.2.2.2.2.2.2.1
theorem d_MD_comes_27 : decode prog_12_method_53_code 27 = .ok (.ireturn, 1) := F_MD_comes_0.2.2.2.2.2.2.2.2.2.2.2.2.2.1
theorem d_MD_comes_28 : decode prog_12_method_53_code 28 = .ok (.aload_n 0, 1) := F_MD_comes_0.2.2.2.2.2.2.2.2.2.2.2.2.2.2.1
theorem d_MD_comes_29 : decode prog_12_method_53_code 29 = .ok (.invokevirtual 268, 3) := F_MD_comes_0.2.2.2.2.2.2.2.2.2.2.2.2.2.2.2.1
theorem d_MD_comes_32 : decode prog_12_method_53_code 32 = .ok (.aload_n 0, 1) := F_MD_comes_0.2.2.2.2.2.2.2.2.2.2.2.2.2.2.2.2.1
theorem d_MD_comes_33 : decode prog_12_method_53_code 33 = .ok (.getfield 21, 3) := F_MD_comes_0.2.2.2.2.2.2.2.2.2.2.2.2.2.2.2.2.2.1
theorem d_MD_comes_36 : decode prog_12_method_53_code 36 = .ok (.sipush (168), 3) := F_MD_comes_0.2.2.2.2.2.2.2.2.2.2.2.2.2.2.2.2.2.2.1
theorem d_MD_comes_39 : decode prog_12_method_53_code 39 = .ok (.laload, 1) := F_MD_comes_0.2.2.2.2.2.2.2.2.2.2.2.2.2.2.2.2.2.2.2.1
theorem d_MD_comes_40 : decode prog_12_method_53_code 40 = .ok (.l2i, 1) := F_MD_comes_0.2.2.2.2.2.2.2.2.2.2.2.2.2.2.2.2.2.2.2.2.1
theorem d_MD_comes_41 : decode prog_12_method_53_code 41 = .ok (.istore_n 1, 1) := F_MD_comes_0.2.2.2.2.2.2.2.2.2.2.2.2.2.2.2.2.2.2.2.2.2.1
theorem d_MD_comes_42 : decode prog_12_method_53_code 42 = .ok (.aload_n 0, 1) := F_MD_comes_0.2.2.2.2.2.2.2.2.2.2.2.2.2.2.2.2.2.2.2.2.2.2.1
theorem d_MD_comes_43 : decode prog_12_method_53_code 43 = .ok (.aload_n 0, 1) := F_MD_comes_0.2.2.2.2.2.2.2.2.2.2.2.2.2.2.2.2.2.2.2.2.2.2.2.1
theorem d_MD_comes_44 : decode prog_12_method_53_code 44 = .ok (.getfield 21, 3) := F_MD_comes_0.2.2.2.2.2.2.2.2.2.2.2.2.2.2.2.2.2.2.2.2.2.2.2.2.1
theorem d_MD_comes_47 : decode prog_12_method_53_code 47 = .ok (.iload_n 1, 1) := F_MD_comes_0.2.2.2.2.2.2.2.2.2.2.2.2.2.2.2.2.2.2.2.2.2.2.2.2.2.1
theorem d_MD_comes_48 : decode prog_12_method_53_code 48 = .ok (.invokevirtual 175, 3) := F_MD_comes_0.2.2.2.2.2.2.2.2.2.2.2.2.2.2.2.2.2.2.2.2.2.2.2.2.2.2.1
theorem d_MD_comes_51 : decode prog_12_method_53_code 51 = .ok (.aload_n 0, 1) := F_MD_comes_0.2.2.2.2.2.2.2.2.2.2.2.2.2.2.2.2.2.2.2.2.2.2.2.2.2.2.2.1
theorem d_MD_comes_52 : decode prog_12_method_53_code 52 = .ok (.getfield 21, 3) := F_MD_comes_0.2.2.2.2.2.2.2.2.2.2.2.2.2.2.2.2.2.2.2.2.2.2.2.2.2.2.2.2.1
theorem d_MD_comes_55 : decode prog_12_method_53_code 55 = .ok (.sipush (168), 3) := F_MD_comes_0.2.2.2.2.2.2.2.2.2.2.2.2.2.2.2.2.2.2.2.2.2.2.2.2.2.2.2.2.2.1
theorem d_MD_comes_58 : decode prog_12_method_53_code 58 = .ok (.dup2, 1) := F_MD_comes_0.2.2.2.2.2.2.2.2.2.2.2.2.2.2.2.2.2.2.2.2.2.2.2.2.2.2.2.2.2.2.1
theorem d_MD_comes_59 : decode prog_12_method_53_code 59 = .ok (.laload, 1) := F_MD_comes_0.2.2.2.2.2.2.2.2.2.2.2.2.2.2.2.2.2.2.2.2.2.2.2.2.2.2.2.2.2.2.2.1
theorem F_MD_comes_60 : Jvm.Free.DS.Facts prog_12_method_53_code 60 [(.lconst 1, 1), (.ladd, 1), (.lastore, 1), (.iload_n 1, 1), (.ireturn, 1)] := Jvm.Free.DS.facts 60 _ (by decide +kernel) (by decide +kernel)
theorem d_MD_comes_60 : decode prog_12_method_53_code 60 = .ok (.lconst 1, 1) := F_MD_comes_60.1
theorem d_MD_comes_61 : decode prog_12_method_53_code 61 = .ok (.ladd, 1) := F_MD_comes_60.2.1
theorem d_MD_comes_62 : decode prog_12_method_53_code 62 = .ok (.lastore, 1) := F_MD_comes_60.2.2.1
theorem d_MD_comes_63 : decode prog_12_method_53_code 63 = .ok (.iload_n 1, 1) := F_MD_comes_60.2.2.2.1
theorem d_MD_comes_64 : decode prog_12_method_53_code 64 = .ok (.ireturn, 1) := F_MD_comes_60.2.2.2.2.1
theorem F_MD_keeps_0 : Jvm.Free.DS.Facts prog_12_method_51_code 0 [(.aload_n 0, 1), (.getfield 71, 3), (.bipush (16), 2), (.if_icmp .ne (48), 3), (.sipush (170), 3), (.istore_n 1, 1), (.iload_n 1, 1), (.aload_n 0, 1), (.getfield 28, 3), (.arraylength, 1), (.if_icmp .ge (25), 3), (.aload_n 0, 1), (.getfield 28, 3), (.iload_n 1, 1), (.sipush (170), 3), (.isub, 1), (.aload_n 0, 1), (.getfield 28, 3), (.iload_n 1, 1), (.laload, 1), (.lastore, 1), (.iinc 1 (1), 3), (.goto (-28), 3), (.aload_n 0, 1), (.dup, 1), (.getfield 71, 3), (.iconst 1, 1), (.isub, 1), (.putfield 71, 3), (.iconst 0, 1), (.istore_n 1, 1), (.iload_n 1, 1)] := Jvm.Free.DS.facts 0 _ (by decide +kernel) (by decide +kernel)
theorem d_MD_keeps_0 : decode prog_12_method_51_code 0 = .ok (.aload_n 0, 1) := F_MD_keeps_0.1
theorem d_MD_keeps_1 : decode prog_12_method_51_code 1 = .ok (.getfield 71, 3) := F_MD_keeps_0.2.1
theorem d_MD_keeps_4 : decode prog_12_method_51_code 4 = .ok (.bipush (16), 2) := F_MD_keeps_0.2.2.1
theorem d_MD_keeps_6 : decode prog_12_method_51_code 6 = .ok (.if_icmp .ne (48), 3) := F_MD_keeps_0.2.2.2.1
theorem d_MD_keeps_9 : decode prog_12_method_51_code 9 = .ok (.sipush (170), 3) := F_MD_keeps_0.2.2.2.2.1
theorem d_MD_keeps_12 : decode prog_12_method_51_code 12 = .ok (.istore_n 1, 1) := F_MD_keeps_0.2.2.2.2.2.1
theorem d_MD_keeps_13 : decode prog_12_method_51_code 13 = .ok (.iload_n 1, 1) := F_MD_keeps_0.2.2.2.2.2.2.1
theorem d_MD_keeps_14 : decode prog_12_method_51_code 14 = .ok (.aload_n 0, 1) := F_MD_keeps_0.2.2.2.2.2.2.2.1
theorem d_MD_keeps_15 : decode prog_12_method_51_code 15 = .ok (.getfield 28, 3) := F_MD_keeps_0.2.2.2.2.2.2.2.2.1
theorem d_MD_keeps_18 : decode prog_12_method_51_code 18 = .ok (.arraylength, 1) := F_MD_keeps_0.2.2.2.2.2.2.2.2.2.1
theorem d_MD_keeps_19 : decode prog_12_method_51_code 19 = .ok (.if_icmp .ge (25), 3) := F_MD_keeps_0.2.2.2.2.2.2.2.2.2.2.1
theorem d_MD_keeps_22 : decode prog_12_method_51_code 22 = .ok (.aload_n 0, 1) := F_MD_keeps_0.2.2.2.2.2.2.2.2.2.2.2.1
theorem d_MD_keeps_23 : decode prog_12_method_51_code 23 = .ok (.getfield 28, 3) := F_MD_keeps_0.2.2.2.2.2.2.2.2.2.2.2.2.1
theorem d_MD_keeps_26 : decode prog_12_method_51_code 26 = .ok (.iload_n 1, 1) := F_MD_keeps_0.2.2.2.2.2.2.2.2.2.2.2.2.2.1
theorem d_MD_keeps_27 : decode prog_12_method_51_code 27 = .ok (.sipush (170), 3) := F_MD_keeps_0.2.2.2.2.2.2.2.2.2.2.2.2.2.2.1
theorem d_MD_keeps_30 : decode prog_12_method_51_code 30 = .ok (.isub, 1) := F_MD_keeps_0.2.2.2.2.2.2.2.2.2.2.2.2.2.2.2.1
theorem d_MD_keeps_31 : decode prog_12_method_51_code 31 = .ok (.aload_n 0, 1) := F_MD_keeps_0.2.2.2.2.2.2.2.2.2.2.2.2.2.2.2.2.1
theorem d_MD_keeps_32 : decode prog_12_method_51_code 32 = .ok (.getfield 28, 3) := F_MD_keeps_0.2.2.2.2.2.2.2.2.2.2.2.2.2.2.2.2.2.1
theorem d_MD_keeps_35 : decode prog_12_method_51_code 35 = .ok (.iload_n 1, 1) := F_MD_keeps_0.2.2.2.2.2.2.2.2.2.2.2.2.2.2.2.2.2.2.1
theorem d_MD_keeps_36 : decode prog_12_method_51_code 36 = .ok (.laload, 1) := F_MD_keeps_0.2.2.2.2.2.2.2.2.2.2.2.2.2.2.2.2.2.2.2.1
theorem d_MD_keeps_37 : decode prog_12_method_51_code 37 = .ok (.lastore, 1) := F_MD_keeps_0.2.2.2.2.2.2.2.2.2.2.2.2.2.2.2.2.2.2.2.2.1
theorem d_MD_keeps_38 : decode prog_12_method_51_code 38 = .ok (.iinc 1 (1), 3) := F_MD_keeps_0.2.2.2.2.2.2.2.2.2.2.2.2.2.2.2.2.2.2.2.2.2.1
theorem d_MD_keeps_41 : decode prog_12_method_51_code 41 = .ok (.goto (-28), 3) := F_MD_keeps_0.2.2.2.2.2.2.2.2.2.2.2.2.2.2.2.2.2.2.2.2.2.2.1
theorem d_MD_keeps_44 : decode prog_12_method_51_code 44 = .ok (.aload_n 0, 1) := F_MD_keeps_0.2.2.2.2.2.2.2.2.2.2.2.2.2.2.2.2.2.2.2.2.2.2.2.1
theorem d_MD_keeps_45 : decode prog_12_method_51_code 45 = .ok (.dup, 1) := F_MD_keeps_0.2.2.2.2.2.2.2.2.2.2.2.2.2.2.2.2.2.2.2.2.2.2.2.2.1
theorem d_MD_keeps_46 : decode prog_12_method_51_code 46 = .ok (.getfield 71, 3) := F_MD_keeps_0.2.2.2.2.2.2.2.2.2.2.2.2.2.2.2.2.2.2.2.2.2.2.2.2.2.1
theorem d_MD_keeps_49 : decode prog_12_method_51_code 49 = .ok (.iconst 1, 1) := F_MD_keeps_0.2.2.2.2.2.2.2.2.2.2.2.2.2.2.2.2.2.2.2.2.2.2.2.2.2.2.1
theorem d_MD_keeps_50 : decode prog_12_method_51_code 50 = .ok (.isub, 1) := F_MD_keeps_0.2.2.2.2.2.2.2.2.2.2.2.2.2.2.2.2.2.2.2.2.2.2.2.2.2.2.2.1
theorem d_MD_keeps_51 : decode prog_12_method_51_code 51 = .ok (.putfield 71, 3) := F_MD_keeps_0.2.2.2.2.2.2.2.2.2.2.2.2.2.2.2.2.2.2.2.2.2.2.2.2.2.2.2.2.1
theorem d_MD_keeps_54 : decode prog_12_method_51_code 54 = .ok (.iconst 0, 1) := F_MD_keeps_0.2.2.2.2.2.2.2.2.2.2.2.2.2.2.2.2.2.2.2.2.2.2.2.2.2.2.2.2.2.1
theorem d_MD_keeps_55 : decode prog_12_method_51_code 55 = .ok (.istore_n 1, 1) := F_MD_keeps_0.2.2.2.2.2.2.2.2.2.2.2.2.2.2.2.2.2.2.2.2.2.2.2.2.2.2.2.2.2.2.1
theorem d_MD_keeps_56 : decode prog_12_method_51_code 56 = .ok (.iload_n 1, 1) := F_MD_keeps_0.2.2.2.2.2.2.2.2.2.2.2.2.2.2.2.2.2.2.2.2.2.2.2.2.2.2.2.2.2.2.2.1
theorem F_MD_keeps_57 : Jvm.Free.DS.Facts prog_12_method_51_code 57 [(.sipush (170), 3), (.if_icmp .ge (30), 3), (.aload_n 0, 1), (.getfield 28, 3), (.sipush (170), 3), (.aload_n 0, 1), (.getfield 71, 3), (.imul, 1), (.iload_n 1, 1), (.iadd, 1), (.aload_n 0, 1), (.getfield 21, 3), (.iload_n 1, 1), (.laload, 1), (.lastore, 1), (.iinc 1 (1), 3), (.goto (-31), 3), (.aload_n 0, 1), (.dup, 1), (.getfield 71, 3), (.iconst 1, 1), (.iadd, 1), (.putfield 71, 3), (.return_, 1)] := Jvm.Free.DS.facts 57 _ (by decide +kernel) (by decide +kernel)
theorem d_MD_keeps_57 : decode prog_12_method_51_code 57 = .ok (.sipush (170), 3) := F_MD_keeps_57.1
theorem d_MD_keeps_60 : decode prog_12_method_51_code 60 = .ok (.if_icmp .ge (30), 3) := F_MD_keeps_57.2.1
theorem d_MD_keeps_63 : decode prog_12_method_51_code 63 = .ok (.aload_n 0, 1) := F_MD_keeps_57.2.2.1
theorem d_MD_keeps_64 : decode prog_12_method_51_code 64 = .ok (.getfield 28, 3) := F_MD_keeps_57.2.2.2.1
theorem d_MD_keeps_67 : decode prog_12_method_51_code 67 = .ok (.sipush (170), 3) := F_MD_keeps_57.2.2.2.2.1
theorem d_MD_keeps_70 : decode prog_12_method_51_code 70 = .ok (.aload_n 0, 1) := F_MD_keeps_57.2.2.2.2.2.1
theorem d_MD_keeps_71 : decode prog_12_method_51_code 71 = .ok (.getfield 71, 3) := F_MD_keeps_57.2.2.2.2.2.2.1
theorem d_MD_keeps_74 : decode prog_12_method_51_code 74 = .ok (.imul, 1) := F_MD_keeps_57.2.2.2.2.2.2.2.1
theorem d_MD_keeps_75 : decode prog_12_method_51_code 75 = .ok (.iload_n 1, 1) := F_MD_keeps_57.2.2.2.2.2.2.2.2.1
theorem d_MD_keeps_76 : decode prog_12_method_51_code 76 = .ok (.iadd, 1) := F_MD_keeps_57.2.2.2.2.2.2.2.2.2.1
theorem d_MD_keeps_77 : decode prog_12_method_51_code 77 = .ok (.aload_n 0, 1) := F_MD_keeps_57.2.2.2.2.2.2.2.2.2.2.1
theorem d_MD_keeps_78 : decode prog_12_method_51_code 78 = .ok (.getfield 21, 3) := F_MD_keeps_57.2.2.2.2.2.2.2.2.2.2.2.1
theorem d_MD_keeps_81 : decode prog_12_method_51_code 81 = .ok (.iload_n 1, 1) := F_MD_keeps_57.2.2.2.2.2.2.2.2.2.2.2.2.1
theorem d_MD_keeps_82 : decode prog_12_method_51_code 82 = .ok (.laload, 1) := F_MD_keeps_57.2.2.2.2.2.2.2.2.2.2.2.2.2.1
theorem d_MD_keeps_83 : decode prog_12_method_51_code 83 = .ok (.lastore, 1) := F_MD_keeps_57.2.2.2.2.2.2.2.2.2.2.2.2.2.2.1
theorem d_MD_keeps_84 : decode prog_12_method_51_code 84 = .ok (.iinc 1 (1), 3) := F_MD_keeps_57.2.2.2.2.2.2.2.2.2.2.2.2.2.2.2.1
theorem d_MD_keeps_87 : decode prog_12_method_51_code 87 = .ok (.goto (-31), 3) := F_MD_keeps_57.2.2.2.2.2.2.2.2.2.2.2.2.2.2.2.2.1
theorem d_MD_keeps_90 : decode prog_12_method_51_code 90 = .ok (.aload_n 0, 1) := F_MD_keeps_57.2.2.2.2.2.2.2.2.2.2.2.2.2.2.2.2.2.1
theorem d_MD_keeps_91 : decode prog_12_method_51_code 91 = .ok (.dup, 1) := F_MD_keeps_57.2.2.2.2.2.2.2.2.2.2.2.2.2.2.2.2.2.2.1
theorem d_MD_keeps_92 : decode prog_12_method_51_code 92 = .ok (.getfield 71, 3) := F_MD_keeps_57.2.2.2.2.2.2.2.2.2.2.2.2.2.2.2.2.2.2.2.1
theorem d_MD_keeps_95 : decode prog_12_method_51_code 95 = .ok (.iconst 1, 1) := F_MD_keeps_57.2.2.2.2.2.2.2.2.2.2.2.2.2.2.2.2.2.2.2.2.1
theorem d_MD_keeps_96 : decode prog_12_method_51_code 96 = .ok (.iadd, 1) := F_MD_keeps_57.2.2.2.2.2.2.2.2.2.2.2.2.2.2.2.2.2.2.2.2.2.1
theorem d_MD_keeps_97 : decode prog_12_method_51_code 97 = .ok (.putfield 71, 3) := F_MD_keeps_57.2.2.2.2.2.2.2.2.2.2.2.2.2.2.2.2.2.2.2.2.2.2.1
theorem d_MD_keeps_100 : decode prog_12_method_51_code 100 = .ok (.return_, 1) := F_MD_keeps_57.2.2.2.2.2.2.2.2.2.2.2.2.2.2.2.2.2.2.2.2.2.2.2.1
theorem F_MD_square_0 : Jvm.Free.DS.Facts prog_12_method_55_code 0 [(.aload_n 0, 1), (.iconst 0, 1), (.putfield 74, 3), (.aload_n 0, 1), (.iload_n 1, 1), (.invokevirtual 238, 3), (.ifCond .eq (14), 3), (.iload_n 2, 1), (.iconst 1, 1), (.if_icmp .lt (9), 3), (.iload_n 2, 1), (.bipush (20), 2), (.if_icmp .le (5), 3), (.iconst (-1), 1), (.ireturn, 1), (.iconst 0, 1), (.istore_n 3, 1), (.iload_n 3, 1), (.bipush (8), 2), (.if_icmp .ge (61), 3), (.aload_n 0, 1), (.getfield 56, 3), (.iload_n 3, 1), (.aload_n 0, 1), (.getfield 15, 3), (.bipush (8), 2), (.iload_n 1, 1), (.imul, 1), (.iload_n 3, 1), (.iadd, 1), (.iaload, 1), (.iastore, 1)] := Jvm.Free.DS.facts 0 _ (by decide +kernel) (by decide +kernel)
theorem d_MD_square_0 : decode prog_12_method_55_code 0 = .ok (.aload_n 0, 1) := F_MD_square_0.1
theorem d_MD_square_1 : decode prog_12_method_55_code 1 = .ok (.iconst 0, 1) := F_MD_square_0.2.1
theorem d_MD_square_2 : decode prog_12_method_55_code 2 = .ok (.putfield 74, 3) := F_MD_square_0.2.2.1
theorem d_MD_square_5 : decode prog_12_method_55_code 5 = .ok (.aload_n 0, 1) := F_MD_square_0.2.2.2.1
theorem d_MD_square_6 : decode prog_12_method_55_code 6 = .ok (.iload_n 1, 1) := F_MD_square_0.2.2.2.2.1
theorem d_MD_square_7 : decode prog_12_method_55_code 7 = .ok (.invokevirtual 238, 3) := F_MD_square_0.2.2.2.2.2.1
theorem d_MD_square_10 : decode prog_12_method_55_code 10 = .ok (.ifCond .eq (14), 3) := F_MD_square_0.2.2.2.2.2.2.1
theorem d_MD_square_13 : decode prog_12_method_55_code 13 = .ok (.iload_n 2, 1) := F_MD_square_0.2.2.2.2.2.2.2.1
theorem d_MD_square_14 : decode prog_12_method_55_code 14 = .ok (.iconst 1, 1) := F_MD_square_0.2.2.2.2.2.2.2.2.1
theorem d_MD_square_15 : decode prog_12_method_55_code 15 = .ok (.if_icmp .lt (9), 3) := F_MD_square_0.2.2.2.2.2.2.2.2.2.1
theorem d_MD_square_18 : decode prog_12_method_55_code 18 = .ok (.iload_n 2, 1) := F_MD_square_0.2.2.2.2.2.2.2.2.2.2.1
theorem d_MD_square_19 : decode prog_12_method_55_code 19 = .ok (.bipush (20), 2) := F_MD_square_0.2.2.2.2.2.2.2.2.2.2.2.1
theorem d_MD_square_21 : decode prog_12_method_55_code 21 = .ok (.if_icmp .le (5), 3) := F_MD_square_0.2.2.2.2.2.2.2.2.2.2.2.2.1
theorem d_MD_square_24 : decode prog_12_method_55_code 24 = .ok (.iconst (-1), 1) := F_MD_square_0.2.2.2.2.2.2.2.2.2.2.2.2.2.1
theorem d_MD_square_25 : decode prog_12_method_55_code 25 = .ok (.ireturn, 1) := F_MD_square_0.2.2.2.2.2.2.2.2.2.2.2.2.2.2.1
theorem d_MD_square_26 : decode prog_12_method_55_code 26 = .ok (.iconst 0, 1) := F_MD_square_0.2.2.2.2.2.2.2.2.2.2.2.2.2.2.2.1
theorem d_MD_square_27 : decode prog_12_method_55_code 27 = .ok (.istore_n 3, 1) := F_MD_square_0.2.2.2.2.2.2.2.2.2.2.2.2.2.2.2.2.1
theorem d_MD_square_28 : decode prog_12_method_55_code 28 = .ok (.iload_n 3, 1) := F_MD_square_0.2.2.2.2.2.2.2.2.2.2.2.2.2.2.2.2.2.1
theorem d_MD_square_29 : decode prog_12_method_55_code 29 = .ok (.bipush (8), 2) := F_MD_square_0.2.2.2.2.2.2.2.2.2.2.2.2.2.2.2.2.2.2.1
theorem d_MD_square_31 : decode prog_12_method_55_code 31 = .ok (.if_icmp .ge (61), 3) := F_MD_square_0.2.2.2.2.2.2.2.2.2.2.2.2.2.2.2.2.2.2.2.1
theorem d_MD_square_34 : decode prog_12_method_55_code 34 = .ok (.aload_n 0, 1) := F_MD_square_0.2.2.2.2.2.2.2.2.2.2.2.2.2.2.2.2.2.2.2.2.1
theorem d_MD_square_35 : decode prog_12_method_55_code 35 = .ok (.getfield 56, 3) := F_MD_square_0.2.2.2.2.2.2.2.2.2.2.2.2.2.2.2.2.2.2.2.2.2.1
theorem d_MD_square_38 : decode prog_12_method_55_code 38 = .ok (.iload_n 3, 1) := F_MD_square_0.2.2.2.2.2.2.2.2.2.2.2.2.2.2.2.2.2.2.2.2.2.2.1
theorem d_MD_square_39 : decode prog_12_method_55_code 39 = .ok (.aload_n 0, 1) := F_MD_square_0.2.2.2.2.2.2.2.2.2.2.2.2.2.2.2.2.2.2.2.2.2.2.2.1
theorem d_MD_square_40 : decode prog_12_method_55_code 40 = .ok (.getfield 15, 3) := F_MD_square_0.2.2.2.2.2.2.2.2.2.2.2.2.2.2.2.2.2.2.2.2.2.2.2.2.1
theorem d_MD_square_43 : decode prog_12_method_55_code 43 = .ok (.bipush (8), 2) := F_MD_square_0.2.2.2.2.2.2.2.2.2.2.2.2.2.2.2.2.2.2.2.2.2.2.2.2.2.1
theorem d_MD_square_45 : decode prog_12_method_55_code 45 = .ok (.iload_n 1, 1) := F_MD_square_0.2.2.2.2.2.2.2.2.2.2.2.2.2.2.2.2.2.2.2.2.2.2.2.2.2.2.1
theorem d_MD_square_46 : decode prog_12_method_55_code 46 = .ok (.imul, 1) := F_MD_square_0.2.2.2.2.2.2.2.2.2.2.2.2.2.2.2.2.2.2.2.2.2.2.2.2.2.2.2.1
theorem d_MD_square_47 : decode prog_12_method_55_code 47 = .ok (.iload_n 3, 1) := F_MD_square_0.2.2.2.2.2.2.2.2.2.2.2.2.2.2.2.2.2.2.2.2.2.2.2.2.2.2.2.2.1
theorem d_MD_square_48 : decode prog_12_method_55_code 48 = .ok (.iadd, 1) := F_MD_square_0.2.2.2.2.2.2.2.2.2.2.2.2.2.2.2.2.2.2.2.2.2.2.2.2.2.2.2.2.2.1
theorem d_MD_square_49 : decode prog_12_method_55_code 49 = .ok (.iaload, 1) := F_MD_square_0.2.2.2.2.2.2.2.2.2.2.2.2.2.2.2.2.2.2.2.2.2.2.2.2.2.2.2.2.2.2.1
theorem d_MD_square_50 : decode prog_12_method_55_code 50 = .ok (.iastore, 1) := F_MD_square_0.2.2.2.2.2.2.2.2.2.2.2.2.2.2.2.2.2.2.2.2.2.2.2.2.2.2.2.2.2.2.2.1
theorem F_MD_square_51 : Jvm.Free.DS.Facts prog_12_method_55_code 51 [(.aload_n 0, 1), (.getfield 56, 3), (.bipush (8), 2), (.iload_n 3, 1), (.iadd, 1), (.iload_n 3, 1), (.iconst 2, 1), (.if_icmp .eq (19), 3), (.iload_n 3, 1), (.iconst 4, 1), (.if_icmp .eq (14), 3), (.iload_n 3, 1), (.iconst 5, 1), (.if_icmp .eq (9), 3), (.iload_n 3, 1), (.bipush (7), 2), (.if_icmp .ne (7), 3), (.iload_n 2, 1), (.goto (4), 3), (.iconst 0, 1), (.iastore, 1), (.iinc 3 (1), 3), (.goto (-61), 3), (.aload_n 0, 1), (.aload_n 0, 1), (.getfield 56, 3), (.iconst 0, 1), (.iconst 1, 1), (.invokevirtual 168, 3), (.aload_n 0, 1), (.invokevirtual 271, 3), (.ireturn, 1)] := Jvm.Free.DS.facts 51 _ (by decide +kernel) (by decide +kernel)
theorem d_MD_square_51 : decode prog_12_method_55_code 51 = .ok (.aload_n 0, 1) := F_MD_square_51.1
theorem d_MD_square_52 : decode prog_12_method_55_code 52 = .ok (.getfield 56, 3) := F_MD_square_51.2.1
theorem d_MD_square_55 : decode prog_12_method_55_code 55 = .ok (.bipush (8), 2) := F_MD_square_51.2.2.1
theorem d_MD_square_57 : decode prog_12_method_55_code 57 = .ok (.iload_n 3, 1) := F_MD_square_51.2.2.2.1
theorem d_MD_square_58 : decode prog_12_method_55_code 58 = .ok (.iadd, 1) := F_MD_square_51.2.2.2.2.1
theorem d_MD_square_59 : decode prog_12_method_55_code 59 = .ok (.iload_n 3, 1) := F_MD_square_51.2.2.2.2.2.1
theorem d_MD_square_60 : decode prog_12_method_55_code 60 = .ok (.iconst 2, 1) := F_MD_square_51.2.2.2.2.2.2.1
theorem d_MD_square_61 : decode prog_12_method_55_code 61 = .ok (.if_icmp .eq (19), 3) := F_MD_square_51.2.2.2.2.2.2.2.1
theorem d_MD_square_64 : decode prog_12_method_55_code 64 = .ok (.iload_n 3, 1) := F_MD_square_51.2.2.2.2.2.2.2.2.1
theorem d_MD_square_65 : decode prog_12_method_55_code 65 = .ok (.iconst 4, 1) := F_MD_square_51.2.2.2.2.2.2.2.2.2.1
theorem d_MD_square_66 : decode prog_12_method_55_code 66 = .ok (.if_icmp .eq (14), 3) := F_MD_square_51.2.2.2.2.2.2.2.2.2.2.1
theorem d_MD_square_69 : decode prog_12_method_55_code 69 = .ok (.iload_n 3, 1) := F_MD_square_51.2.2.2.2.2.2.2.2.2.2.2.1
theorem d_MD_square_70 : decode prog_12_method_55_code 70 = .ok (.iconst 5, 1) := F_MD_square_51.2.2.2.2.2.2.2.2.2.2.2.2.1
theorem d_MD_square_71 : decode prog_12_method_55_code 71 = .ok (.if_icmp .eq (9), 3) := F_MD_square_51.2.2.2.2.2.2.2.2.2.2.2.2.2.1
theorem d_MD_square_74 : decode prog_12_method_55_code 74 = .ok (.iload_n 3, 1) := F_MD_square_51.2.2.2.2.2.2.2.2.2.2.2.2.2.2.1
theorem d_MD_square_75 : decode prog_12_method_55_code 75 = .ok (.bipush (7), 2) := F_MD_square_51.2.2.2.2.2.2.2.2.2.2.2.2.2.2.2.1
theorem d_MD_square_77 : decode prog_12_method_55_code 77 = .ok (.if_icmp .ne (7), 3) := F_MD_square_51.2.2.2.2.2.2.2.2.2.2.2.2.2.2.2.2.1
theorem d_MD_square_80 : decode prog_12_method_55_code 80 = .ok (.iload_n 2, 1) := F_MD_square_51.2.2.2.2.2.2.2.2.2.2.2.2.2.2.2.2.2.1
theorem d_MD_square_81 : decode prog_12_method_55_code 81 = .ok (.goto (4), 3) := F_MD_square_51.2.2.2.2.2.2.2.2.2.2.2.2.2.2.2.2.2.2.1
theorem d_MD_square_84 : decode prog_12_method_55_code 84 = .ok (.iconst 0, 1) := F_MD_square_51.2.2.2.2.2.2.2.2.2.2.2.2.2.2.2.2.2.2.2.1
theorem d_MD_square_85 : decode prog_12_method_55_code 85 = .ok (.iastore, 1) := F_MD_square_51.2.2.2.2.2.2.2.2.2.2.2.2.2.2.2.2.2.2.2.2.1
theorem d_MD_square_86 : decode prog_12_method_55_code 86 = .ok (.iinc 3 (1), 3) := F_MD_square_51.2.2.2.2.2.2.2.2.2.2.2.2.2.2.2.2.2.2.2.2.2.1
theorem d_MD_square_89 : decode prog_12_method_55_code 89 = .ok (.goto (-61), 3) := F_MD_square_51.2.2.2.2.2.2.2.2.2.2.2.2.2.2.2.2.2.2.2.2.2.2.1
theorem d_MD_square_92 : decode prog_12_method_55_code 92 = .ok (.aload_n 0, 1) := F_MD_square_51.2.2.2.2.2.2.2.2.2.2.2.2.2.2.2.2.2.2.2.2.2.2.2.1
theorem d_MD_square_93 : decode prog_12_method_55_code 93 = .ok (.aload_n 0, 1) := F_MD_square_51.2.2.2.2.2.2.2.2.2.2.2.2.2.2.2.2.2.2.2.2.2.2.2.2.1
theorem d_MD_square_94 : decode prog_12_method_55_code 94 = .ok (.getfield 56, 3) := F_MD_square_51.2.2.2.2.2.2.2.2.2.2.2.2.2.2.2.2.2.2.2.2.2.2.2.2.2.1
theorem d_MD_square_97 : decode prog_12_method_55_code 97 = .ok (.iconst 0, 1) := F_MD_square_51.2.2.2.2.2.2.2.2.2.2.2.2.2.2.2.2.2.2.2.2.2.2.2.2.2.2.1
theorem d_MD_square_98 : decode prog_12_method_55_code 98 = .ok (.iconst 1, 1) := F_MD_square_51.2.2.2.2.2.2.2.2.2.2.2.2.2.2.2.2.2.2.2.2.2.2.2.2.2.2.2.1
theorem d_MD_square_99 : decode prog_12_method_55_code 99 = .ok (.invokevirtual 168, 3) := F_MD_square_51.2.2.2.2.2.2.2.2.2.2.2.2.2.2.2.2.2.2.2.2.2.2.2.2.2.2.2.2.1
theorem d_MD_square_102 : decode prog_12_method_55_code 102 = .ok (.aload_n 0, 1) := F_MD_square_51.2.2.2.2.2.2.2.2.2.2.2.2.2.2.2.2.2.2.2.2.2.2.2.2.2.2.2.2.2.1
theorem d_MD_square_103 : decode prog_12_method_55_code 103 = .ok (.invokevirtual 271, 3) := F_MD_square_51.2.2.2.2.2.2.2.2.2.2.2.2.2.2.2.2.2.2.2.2.2.2.2.2.2.2.2.2.2.2.1
theorem d_MD_square_106 : decode prog_12_method_55_code 106 = .ok (.ireturn, 1) := F_MD_square_51.2.2.2.2.2.2.2.2.2.2.2.2.2.2.2.2.2.2.2.2.2.2.2.2.2.2.2.2.2.2.2.1
theorem F_MD_product_0 : Jvm.Free.DS.Facts prog_12_method_57_code 0 [(.aload_n 0, 1), (.iconst 0, 1), (.putfield 74, 3), (.aload_n 0, 1), (.iload_n 1, 1), (.invokevirtual 241, 3), (.ifCond .eq (11), 3), (.aload_n 0, 1), (.iload_n 2, 1), (.invokevirtual 241, 3), (.ifCond .ne (5), 3), (.iconst (-1), 1), (.ireturn, 1), (.aload_n 0, 1), (.iload_n 1, 1), (.iload_n 2, 1), (.invokevirtual 277, 3), (.aload_n 0, 1), (.invokevirtual 271, 3), (.ireturn, 1)] := Jvm.Free.DS.facts 0 _ (by decide +kernel) (by decide +kernel)
theorem d_MD_product_0 : decode prog_12_method_57_code 0 = .ok (.aload_n 0, 1) := F_MD_product_0.1
theorem d_MD_product_1 : decode prog_12_method_57_code 1 = .ok (.iconst 0, 1) := F_MD_product_0.2.1
theorem d_MD_product_2 : decode prog_12_method_57_code 2 = .ok (.putfield 74, 3) := F_MD_product_0.2.2.1
theorem d_MD_product_5 : decode prog_12_method_57_code 5 = .ok (.aload_n 0, 1) := F_MD_product_0.2.2.2.1
theorem d_MD_product_6 : decode prog_12_method_57_code 6 = .ok (.iload_n 1, 1) := F_MD_product_0.2.2.2.2.1
theorem d_MD_product_7 : decode prog_12_method_57_code 7 = .ok (.invokevirtual 241, 3) := F_MD_product_0.2.2.2.2.2.1
theorem d_MD_product_10 : decode prog_12_method_57_code 10 = .ok (.ifCond .eq (11), 3) := F_MD_product_0.2.2.2.2.2.2.1
theorem d_MD_product_13 : decode prog_12_method_57_code 13 = .ok (.aload_n 0, 1) := F_MD_product_0.2.2.2.2.2.2.2.1
theorem d_MD_product_14 : decode prog_12_method_57_code 14 = .ok (.iload_n 2, 1) := F_MD_product_0.2.2.2.2.2.2.2.2.1
theorem d_MD_product_15 : decode prog_12_method_57_code 15 = .ok (.invokevirtual 241, 3) := F_MD_product_0.2.2.2.2.2.2.2.2.2.1
theorem d_MD_product_18 : decode prog_12_method_57_code 18 = .ok (.ifCond .ne (5), 3) := F_MD_product_0.2.2.2.2.2.2.2.2.2.2.1
theorem d_MD_product_21 : decode prog_12_method_57_code 21 = .ok (.iconst (-1), 1) := F_MD_product_0.2.2.2.2.2.2.2.2.2.2.2.1
theorem d_MD_product_22 : decode prog_12_method_57_code 22 = .ok (.ireturn, 1) := F_MD_product_0.2.2.2.2.2.2.2.2.2.2.2.2.1
theorem d_MD_product_23 : decode prog_12_method_57_code 23 = .ok (.aload_n 0, 1) := F_MD_product_0.2.2.2.2.2.2.2.2.2.2.2.2.2.1
theorem d_MD_product_24 : decode prog_12_method_57_code 24 = .ok (.iload_n 1, 1) := F_MD_product_0.2.2.2.2.2.2.2.2.2.2.2.2.2.2.1
theorem d_MD_product_25 : decode prog_12_method_57_code 25 = .ok (.iload_n 2, 1) := F_MD_product_0.2.2.2.2.2.2.2.2.2.2.2.2.2.2.2.1
theorem d_MD_product_26 : decode prog_12_method_57_code 26 = .ok (.invokevirtual 277, 3) := F_MD_product_0.2.2.2.2.2.2.2.2.2.2.2.2.2.2.2.2.1
theorem d_MD_product_29 : decode prog_12_method_57_code 29 = .ok (.aload_n 0, 1) := F_MD_product_0.2.2.2.2.2.2.2.2.2.2.2.2.2.2.2.2.2.1
theorem d_MD_product_30 : decode prog_12_method_57_code 30 = .ok (.invokevirtual 271, 3) := F_MD_product_0.2.2.2.2.2.2.2.2.2.2.2.2.2.2.2.2.2.2.1
theorem d_MD_product_33 : decode prog_12_method_57_code 33 = .ok (.ireturn, 1) := F_MD_product_0.2.2.2.2.2.2.2.2.2.2.2.2.2.2.2.2.2.2.2.1
theorem F_MD_laysProduct_0 : Jvm.Free.DS.Facts prog_12_method_56_code 0 [(.aload_n 0, 1), (.aload_n 0, 1), (.getfield 44, 3), (.iload_n 1, 1), (.invokevirtual 274, 3), (.aload_n 0, 1), (.aload_n 0, 1), (.getfield 47, 3), (.iload_n 2, 1), (.invokevirtual 274, 3), (.aload_n 0, 1), (.getfield 41, 3), (.aload_n 0, 1), (.getfield 44, 3), (.aload_n 0, 1), (.getfield 47, 3), (.invokestatic 234, 3), (.aload_n 0, 1), (.getfield 41, 3), (.invokestatic 220, 3), (.return_, 1)] := Jvm.Free.DS.facts 0 _ (by decide +kernel) (by decide +kernel)
theorem d_MD_laysProduct_0 : decode prog_12_method_56_code 0 = .ok (.aload_n 0, 1) := F_MD_laysProduct_0.1
theorem d_MD_laysProduct_1 : decode prog_12_method_56_code 1 = .ok (.aload_n 0, 1) := F_MD_laysProduct_0.2.1
theorem d_MD_laysProduct_2 : decode prog_12_method_56_code 2 = .ok (.getfield 44, 3) := F_MD_laysProduct_0.2.2.1
theorem d_MD_laysProduct_5 : decode prog_12_method_56_code 5 = .ok (.iload_n 1, 1) := F_MD_laysProduct_0.2.2.2.1
theorem d_MD_laysProduct_6 : decode prog_12_method_56_code 6 = .ok (.invokevirtual 274, 3) := F_MD_laysProduct_0.2.2.2.2.1
theorem d_MD_laysProduct_9 : decode prog_12_method_56_code 9 = .ok (.aload_n 0, 1) := F_MD_laysProduct_0.2.2.2.2.2.1
theorem d_MD_laysProduct_10 : decode prog_12_method_56_code 10 = .ok (.aload_n 0, 1) := F_MD_laysProduct_0.2.2.2.2.2.2.1
theorem d_MD_laysProduct_11 : decode prog_12_method_56_code 11 = .ok (.getfield 47, 3) := F_MD_laysProduct_0.2.2.2.2.2.2.2.1
theorem d_MD_laysProduct_14 : decode prog_12_method_56_code 14 = .ok (.iload_n 2, 1) := F_MD_laysProduct_0.2.2.2.2.2.2.2.2.1
theorem d_MD_laysProduct_15 : decode prog_12_method_56_code 15 = .ok (.invokevirtual 274, 3) := F_MD_laysProduct_0.2.2.2.2.2.2.2.2.2.1
theorem d_MD_laysProduct_18 : decode prog_12_method_56_code 18 = .ok (.aload_n 0, 1) := F_MD_laysProduct_0.2.2.2.2.2.2.2.2.2.2.1
theorem d_MD_laysProduct_19 : decode prog_12_method_56_code 19 = .ok (.getfield 41, 3) := F_MD_laysProduct_0.2.2.2.2.2.2.2.2.2.2.2.1
theorem d_MD_laysProduct_22 : decode prog_12_method_56_code 22 = .ok (.aload_n 0, 1) := F_MD_laysProduct_0.2.2.2.2.2.2.2.2.2.2.2.2.1
theorem d_MD_laysProduct_23 : decode prog_12_method_56_code 23 = .ok (.getfield 44, 3) := F_MD_laysProduct_0.2.2.2.2.2.2.2.2.2.2.2.2.2.1
theorem d_MD_laysProduct_26 : decode prog_12_method_56_code 26 = .ok (.aload_n 0, 1) := F_MD_laysProduct_0.2.2.2.2.2.2.2.2.2.2.2.2.2.2.1
theorem d_MD_laysProduct_27 : decode prog_12_method_56_code 27 = .ok (.getfield 47, 3) := F_MD_laysProduct_0.2.2.2.2.2.2.2.2.2.2.2.2.2.2.2.1
theorem d_MD_laysProduct_30 : decode prog_12_method_56_code 30 = .ok (.invokestatic 234, 3) := F_MD_laysProduct_0.2.2.2.2.2.2.2.2.2.2.2.2.2.2.2.2.1
theorem d_MD_laysProduct_33 : decode prog_12_method_56_code 33 = .ok (.aload_n 0, 1) := F_MD_laysProduct_0.2.2.2.2.2.2.2.2.2.2.2.2.2.2.2.2.2.1
theorem d_MD_laysProduct_34 : decode prog_12_method_56_code 34 = .ok (.getfield 41, 3) := F_MD_laysProduct_0.2.2.2.2.2.2.2.2.2.2.2.2.2.2.2.2.2.2.1
theorem d_MD_laysProduct_37 : decode prog_12_method_56_code 37 = .ok (.invokestatic 220, 3) := F_MD_laysProduct_0.2.2.2.2.2.2.2.2.2.2.2.2.2.2.2.2.2.2.2.1
theorem d_MD_laysProduct_40 : decode prog_12_method_56_code 40 = .ok (.return_, 1) := F_MD_laysProduct_0.2.2.2.2.2.2.2.2.2.2.2.2.2.2.2.2.2.2.2.2.1
theorem F_MD_takes_0 : Jvm.Free.DS.Facts prog_12_method_29_code 0 [(.iconst 0, 1), (.istore_n 3, 1), (.iload_n 3, 1), (.bipush (9), 2), (.if_icmp .ge (23), 3), (.aload_n 1, 1), (.iload_n 3, 1), (.aload_n 0, 1), (.getfield 21, 3), (.bipush (9), 2), (.iload_n 2, 1), (.imul, 1), (.iload_n 3, 1), (.iadd, 1), (.laload, 1), (.lastore, 1), (.iinc 3 (1), 3), (.goto (-23), 3), (.return_, 1)] := Jvm.Free.DS.facts 0 _ (by decide +kernel) (by decide +kernel)
theorem d_MD_takes_0 : decode prog_12_method_29_code 0 = .ok (.iconst 0, 1) := F_MD_takes_0.1
theorem d_MD_takes_1 : decode prog_12_method_29_code 1 = .ok (.istore_n 3, 1) := F_MD_takes_0.2.1
theorem d_MD_takes_2 : decode prog_12_method_29_code 2 = .ok (.iload_n 3, 1) := F_MD_takes_0.2.2.1
theorem d_MD_takes_3 : decode prog_12_method_29_code 3 = .ok (.bipush (9), 2) := F_MD_takes_0.2.2.2.1
theorem d_MD_takes_5 : decode prog_12_method_29_code 5 = .ok (.if_icmp .ge (23), 3) := F_MD_takes_0.2.2.2.2.1
theorem d_MD_takes_8 : decode prog_12_method_29_code 8 = .ok (.aload_n 1, 1) := F_MD_takes_0.2.2.2.2.2.1
theorem d_MD_takes_9 : decode prog_12_method_29_code 9 = .ok (.iload_n 3, 1) := F_MD_takes_0.2.2.2.2.2.2.1
theorem d_MD_takes_10 : decode prog_12_method_29_code 10 = .ok (.aload_n 0, 1) := F_MD_takes_0.2.2.2.2.2.2.2.1
theorem d_MD_takes_11 : decode prog_12_method_29_code 11 = .ok (.getfield 21, 3) := F_MD_takes_0.2.2.2.2.2.2.2.2.1
theorem d_MD_takes_14 : decode prog_12_method_29_code 14 = .ok (.bipush (9), 2) := F_MD_takes_0.2.2.2.2.2.2.2.2.2.1
theorem d_MD_takes_16 : decode prog_12_method_29_code 16 = .ok (.iload_n 2, 1) := F_MD_takes_0.2.2.2.2.2.2.2.2.2.2.1
theorem d_MD_takes_17 : decode prog_12_method_29_code 17 = .ok (.imul, 1) := F_MD_takes_0.2.2.2.2.2.2.2.2.2.2.2.1
theorem d_MD_takes_18 : decode prog_12_method_29_code 18 = .ok (.iload_n 3, 1) := F_MD_takes_0.2.2.2.2.2.2.2.2.2.2.2.2.1
theorem d_MD_takes_19 : decode prog_12_method_29_code 19 = .ok (.iadd, 1) := F_MD_takes_0.2.2.2.2.2.2.2.2.2.2.2.2.2.1
theorem d_MD_takes_20 : decode prog_12_method_29_code 20 = .ok (.laload, 1) := F_MD_takes_0.2.2.2.2.2.2.2.2.2.2.2.2.2.2.1
theorem d_MD_takes_21 : decode prog_12_method_29_code 21 = .ok (.lastore, 1) := F_MD_takes_0.2.2.2.2.2.2.2.2.2.2.2.2.2.2.2.1
theorem d_MD_takes_22 : decode prog_12_method_29_code 22 = .ok (.iinc 3 (1), 3) := F_MD_takes_0.2.2.2.2.2.2.2.2.2.2.2.2.2.2.2.2.1
theorem d_MD_takes_25 : decode prog_12_method_29_code 25 = .ok (.goto (-23), 3) := F_MD_takes_0.2.2.2.2.2.2.2.2.2.2.2.2.2.2.2.2.2.1
theorem d_MD_takes_28 : decode prog_12_method_29_code 28 = .ok (.return_, 1) := F_MD_takes_0.2.2.2.2.2.2.2.2.2.2.2.2.2.2.2.2.2.2.1
theorem F_MD_inverse_0 : Jvm.Free.DS.Facts prog_12_method_59_code 0 [(.aload_n 0, 1), (.iconst 0, 1), (.putfield 74, 3), (.aload_n 0, 1), (.iload_n 1, 1), (.invokevirtual 241, 3), (.ifCond .ne (5), 3), (.iconst (-1), 1), (.ireturn, 1), (.aload_n 0, 1), (.iload_n 1, 1), (.invokevirtual 280, 3), (.aload_n 0, 1), (.invokevirtual 271, 3), (.ireturn, 1)] := Jvm.Free.DS.facts 0 _ (by decide +kernel) (by decide +kernel)
theorem d_MD_inverse_0 : decode prog_12_method_59_code 0 = .ok (.aload_n 0, 1) := F_MD_inverse_0.1
theorem d_MD_inverse_1 : decode prog_12_method_59_code 1 = .ok (.iconst 0, 1) := F_MD_inverse_0.2.1
theorem d_MD_inverse_2 : decode prog_12_method_59_code 2 = .ok (.putfield 74, 3) := F_MD_inverse_0.2.2.1
theorem d_MD_inverse_5 : decode prog_12_method_59_code 5 = .ok (.aload_n 0, 1) := F_MD_inverse_0.2.2.2.1
theorem d_MD_inverse_6 : decode prog_12_method_59_code 6 = .ok (.iload_n 1, 1) := F_MD_inverse_0.2.2.2.2.1
theorem d_MD_inverse_7 : decode prog_12_method_59_code 7 = .ok (.invokevirtual 241, 3) := F_MD_inverse_0.2.2.2.2.2.1
theorem d_MD_inverse_10 : decode prog_12_method_59_code 10 = .ok (.ifCond .ne (5), 3) := F_MD_inverse_0.2.2.2.2.2.2.1
theorem d_MD_inverse_13 : decode prog_12_method_59_code 13 = .ok (.iconst (-1), 1) := F_MD_inverse_0.2.2.2.2.2.2.2.1
theorem d_MD_inverse_14 : decode prog_12_method_59_code 14 = .ok (.ireturn, 1) := F_MD_inverse_0.2.2.2.2.2.2.2.2.1
theorem d_MD_inverse_15 : decode prog_12_method_59_code 15 = .ok (.aload_n 0, 1) := F_MD_inverse_0.2.2.2.2.2.2.2.2.2.1
theorem d_MD_inverse_16 : decode prog_12_method_59_code 16 = .ok (.iload_n 1, 1) := F_MD_inverse_0.2.2.2.2.2.2.2.2.2.2.1
theorem d_MD_inverse_17 : decode prog_12_method_59_code 17 = .ok (.invokevirtual 280, 3) := F_MD_inverse_0.2.2.2.2.2.2.2.2.2.2.2.1
theorem d_MD_inverse_20 : decode prog_12_method_59_code 20 = .ok (.aload_n 0, 1) := F_MD_inverse_0.2.2.2.2.2.2.2.2.2.2.2.2.1
theorem d_MD_inverse_21 : decode prog_12_method_59_code 21 = .ok (.invokevirtual 271, 3) := F_MD_inverse_0.2.2.2.2.2.2.2.2.2.2.2.2.2.1
theorem d_MD_inverse_24 : decode prog_12_method_59_code 24 = .ok (.ireturn, 1) := F_MD_inverse_0.2.2.2.2.2.2.2.2.2.2.2.2.2.2.1
theorem F_MD_laysInverse_0 : Jvm.Free.DS.Facts prog_12_method_58_code 0 [(.aload_n 0, 1), (.aload_n 0, 1), (.getfield 44, 3), (.iload_n 1, 1), (.invokevirtual 274, 3), (.aload_n 0, 1), (.getfield 41, 3), (.aload_n 0, 1), (.getfield 44, 3), (.invokestatic 230, 3), (.aload_n 0, 1), (.getfield 41, 3), (.invokestatic 220, 3), (.return_, 1)] := Jvm.Free.DS.facts 0 _ (by decide +kernel) (by decide +kernel)
theorem d_MD_laysInverse_0 : decode prog_12_method_58_code 0 = .ok (.aload_n 0, 1) := F_MD_laysInverse_0.1
theorem d_MD_laysInverse_1 : decode prog_12_method_58_code 1 = .ok (.aload_n 0, 1) := F_MD_laysInverse_0.2.1
theorem d_MD_laysInverse_2 : decode prog_12_method_58_code 2 = .ok (.getfield 44, 3) := F_MD_laysInverse_0.2.2.1
theorem d_MD_laysInverse_5 : decode prog_12_method_58_code 5 = .ok (.iload_n 1, 1) := F_MD_laysInverse_0.2.2.2.1
theorem d_MD_laysInverse_6 : decode prog_12_method_58_code 6 = .ok (.invokevirtual 274, 3) := F_MD_laysInverse_0.2.2.2.2.1
theorem d_MD_laysInverse_9 : decode prog_12_method_58_code 9 = .ok (.aload_n 0, 1) := F_MD_laysInverse_0.2.2.2.2.2.1
theorem d_MD_laysInverse_10 : decode prog_12_method_58_code 10 = .ok (.getfield 41, 3) := F_MD_laysInverse_0.2.2.2.2.2.2.1
theorem d_MD_laysInverse_13 : decode prog_12_method_58_code 13 = .ok (.aload_n 0, 1) := F_MD_laysInverse_0.2.2.2.2.2.2.2.1
theorem d_MD_laysInverse_14 : decode prog_12_method_58_code 14 = .ok (.getfield 44, 3) := F_MD_laysInverse_0.2.2.2.2.2.2.2.2.1
theorem d_MD_laysInverse_17 : decode prog_12_method_58_code 17 = .ok (.invokestatic 230, 3) := F_MD_laysInverse_0.2.2.2.2.2.2.2.2.2.1
theorem d_MD_laysInverse_20 : decode prog_12_method_58_code 20 = .ok (.aload_n 0, 1) := F_MD_laysInverse_0.2.2.2.2.2.2.2.2.2.2.1
theorem d_MD_laysInverse_21 : decode prog_12_method_58_code 21 = .ok (.getfield 41, 3) := F_MD_laysInverse_0.2.2.2.2.2.2.2.2.2.2.2.1
theorem d_MD_laysInverse_24 : decode prog_12_method_58_code 24 = .ok (.invokestatic 220, 3) := F_MD_laysInverse_0.2.2.2.2.2.2.2.2.2.2.2.2.1
theorem d_MD_laysInverse_27 : decode prog_12_method_58_code 27 = .ok (.return_, 1) := F_MD_laysInverse_0.2.2.2.2.2.2.2.2.2.2.2.2.2.1
theorem F_MD_power_0 : Jvm.Free.DS.Facts prog_12_method_61_code 0 [(.aload_n 0, 1), (.iconst 0, 1), (.putfield 74, 3), (.aload_n 0, 1), (.iload_n 1, 1), (.invokevirtual 241, 3), (.ifCond .eq (13), 3), (.iload_n 2, 1), (.ifCond .lt (9), 3), (.iload_n 2, 1), (.bipush (12), 2), (.if_icmp .le (5), 3), (.iconst (-1), 1), (.ireturn, 1), (.aload_n 0, 1), (.invokevirtual 283, 3), (.iconst 0, 1), (.istore_n 3, 1), (.iload_n 3, 1), (.iload_n 2, 1), (.if_icmp .ge (20), 3), (.aload_n 0, 1), (.iload_n 1, 1), (.invokevirtual 286, 3), (.ifCond .ne (6), 3), (.bipush (-2), 2), (.ireturn, 1), (.iinc 3 (1), 3), (.goto (-19), 3), (.aload_n 0, 1), (.invokevirtual 271, 3), (.ireturn, 1)] := Jvm.Free.DS.facts 0 _ (by decide +kernel) (by decide +kernel)
theorem d_MD_power_0 : decode prog_12_method_61_code 0 = .ok (.aload_n 0, 1) := F_MD_power_0.1
theorem d_MD_power_1 : decode prog_12_method_61_code 1 = .ok (.iconst 0, 1) := F_MD_power_0.2.1
theorem d_MD_power_2 : decode prog_12_method_61_code 2 = .ok (.putfield 74, 3) := F_MD_power_0.2.2.1
theorem d_MD_power_5 : decode prog_12_method_61_code 5 = .ok (.aload_n 0, 1) := F_MD_power_0.2.2.2.1
theorem d_MD_power_6 : decode prog_12_method_61_code 6 = .ok (.iload_n 1, 1) := F_MD_power_0.2.2.2.2.1
theorem d_MD_power_7 : decode prog_12_method_61_code 7 = .ok (.invokevirtual 241, 3) := F_MD_power_0.2.2.2.2.2.1
theorem d_MD_power_10 : decode prog_12_method_61_code 10 = .ok (.ifCond .eq (13), 3) := F_MD_power_0.2.2.2.2.2.2.1
theorem d_MD_power_13 : decode prog_12_method_61_code 13 = .ok (.iload_n 2, 1) := F_MD_power_0.2.2.2.2.2.2.2.1
theorem d_MD_power_14 : decode prog_12_method_61_code 14 = .ok (.ifCond .lt (9), 3) := F_MD_power_0.2.2.2.2.2.2.2.2.1
theorem d_MD_power_17 : decode prog_12_method_61_code 17 = .ok (.iload_n 2, 1) := F_MD_power_0.2.2.2.2.2.2.2.2.2.1
theorem d_MD_power_18 : decode prog_12_method_61_code 18 = .ok (.bipush (12), 2) := F_MD_power_0.2.2.2.2.2.2.2.2.2.2.1
theorem d_MD_power_20 : decode prog_12_method_61_code 20 = .ok (.if_icmp .le (5), 3) := F_MD_power_0.2.2.2.2.2.2.2.2.2.2.2.1
theorem d_MD_power_23 : decode prog_12_method_61_code 23 = .ok (.iconst (-1), 1) := F_MD_power_0.2.2.2.2.2.2.2.2.2.2.2.2.1
theorem d_MD_power_24 : decode prog_12_method_61_code 24 = .ok (.ireturn, 1) := F_MD_power_0.2.2.2.2.2.2.2.2.2.2.2.2.2.1
theorem d_MD_power_25 : decode prog_12_method_61_code 25 = .ok (.aload_n 0, 1) := F_MD_power_0.2.2.2.2.2.2.2.2.2.2.2.2.2.2.1
theorem d_MD_power_26 : decode prog_12_method_61_code 26 = .ok (.invokevirtual 283, 3) := F_MD_power_0.2.2.2.2.2.2.2.2.2.2.2.2.2.2.2.1
theorem d_MD_power_29 : decode prog_12_method_61_code 29 = .ok (.iconst 0, 1) := F_MD_power_0.2.2.2.2.2.2.2.2.2.2.2.2.2.2.2.2.1
theorem d_MD_power_30 : decode prog_12_method_61_code 30 = .ok (.istore_n 3, 1) := F_MD_power_0.2.2.2.2.2.2.2.2.2.2.2.2.2.2.2.2.2.1
theorem d_MD_power_31 : decode prog_12_method_61_code 31 = .ok (.iload_n 3, 1) := F_MD_power_0.2.2.2.2.2.2.2.2.2.2.2.2.2.2.2.2.2.2.1
theorem d_MD_power_32 : decode prog_12_method_61_code 32 = .ok (.iload_n 2, 1) := F_MD_power_0.2.2.2.2.2.2.2.2.2.2.2.2.2.2.2.2.2.2.2.1
theorem d_MD_power_33 : decode prog_12_method_61_code 33 = .ok (.if_icmp .ge (20), 3) := F_MD_power_0.2.2.2.2.2.2.2.2.2.2.2.2.2.2.2.2.2.2.2.2.1
theorem d_MD_power_36 : decode prog_12_method_61_code 36 = .ok (.aload_n 0, 1) := F_MD_power_0.2.2.2.2.2.2.2.2.2.2.2.2.2.2.2.2.2.2.2.2.2.1
theorem d_MD_power_37 : decode prog_12_method_61_code 37 = .ok (.iload_n 1, 1) := F_MD_power_0.2.2.2.2.2.2.2.2.2.2.2.2.2.2.2.2.2.2.2.2.2.2.1
theorem d_MD_power_38 : decode prog_12_method_61_code 38 = .ok (.invokevirtual 286, 3) := F_MD_power_0.2.2.2.2.2.2.2.2.2.2.2.2.2.2.2.2.2.2.2.2.2.2.2.1
theorem d_MD_power_41 : decode prog_12_method_61_code 41 = .ok (.ifCond .ne (6), 3) := F_MD_power_0.2.2.2.2.2.2.2.2.2.2.2.2.2.2.2.2.2.2.2.2.2.2.2.2.1
theorem d_MD_power_44 : decode prog_12_method_61_code 44 = .ok (.bipush (-2), 2) := F_MD_power_0.2.2.2.2.2.2.2.2.2.2.2.2.2.2.2.2.2.2.2.2.2.2.2.2.2.1
theorem d_MD_power_46 : decode prog_12_method_61_code 46 = .ok (.ireturn, 1) := F_MD_power_0.2.2.2.2.2.2.2.2.2.2.2.2.2.2.2.2.2.2.2.2.2.2.2.2.2.2.1
theorem d_MD_power_47 : decode prog_12_method_61_code 47 = .ok (.iinc 3 (1), 3) := F_MD_power_0.2.2.2.2.2.2.2.2.2.2.2.2.2.2.2.2.2.2.2.2.2.2.2.2.2.2.2.1
theorem d_MD_power_50 : decode prog_12_method_61_code 50 = .ok (.goto (-19), 3) := F_MD_power_0.2.2.2.2.2.2.2.2.2.2.2.2.2.2.2.2.2.2.2.2.2.2.2.2.2.2.2.2.1
theorem d_MD_power_53 : decode prog_12_method_61_code 53 = .ok (.aload_n 0, 1) := F_MD_power_0.2.2.2.2.2.2.2.2.2.2.2.2.2.2.2.2.2.2.2.2.2.2.2.2.2.2.2.2.2.1
theorem d_MD_power_54 : decode prog_12_method_61_code 54 = .ok (.invokevirtual 271, 3) := F_MD_power_0.2.2.2.2.2.2.2.2.2.2.2.2.2.2.2.2.2.2.2.2.2.2.2.2.2.2.2.2.2.2.1
theorem d_MD_power_57 : decode prog_12_method_61_code 57 = .ok (.ireturn, 1) := F_MD_power_0.2.2.2.2.2.2.2.2.2.2.2.2.2.2.2.2.2.2.2.2.2.2.2.2.2.2.2.2.2.2.2.1
theorem F_MD_nothing_0 : Jvm.Free.DS.Facts prog_12_method_30_code 0 [(.iconst 0, 1), (.istore_n 1, 1), (.iload_n 1, 1), (.bipush (9), 2), (.if_icmp .ge (26), 3), (.aload_n 0, 1), (.getfield 41, 3), (.iload_n 1, 1), (.iload_n 1, 1), (.iconst 4, 1), (.irem, 1), (.ifCond .ne (7), 3), (.lconst 1, 1), (.goto (4), 3), (.lconst 0, 1), (.lastore, 1), (.iinc 1 (1), 3), (.goto (-26), 3), (.return_, 1)] := Jvm.Free.DS.facts 0 _ (by decide +kernel) (by decide +kernel)
theorem d_MD_nothing_0 : decode prog_12_method_30_code 0 = .ok (.iconst 0, 1) := F_MD_nothing_0.1
theorem d_MD_nothing_1 : decode prog_12_method_30_code 1 = .ok (.istore_n 1, 1) := F_MD_nothing_0.2.1
theorem d_MD_nothing_2 : decode prog_12_method_30_code 2 = .ok (.iload_n 1, 1) := F_MD_nothing_0.2.2.1
theorem d_MD_nothing_3 : decode prog_12_method_30_code 3 = .ok (.bipush (9), 2) := F_MD_nothing_0.2.2.2.1
theorem d_MD_nothing_5 : decode prog_12_method_30_code 5 = .ok (.if_icmp .ge (26), 3) := F_MD_nothing_0.2.2.2.2.1
theorem d_MD_nothing_8 : decode prog_12_method_30_code 8 = .ok (.aload_n 0, 1) := F_MD_nothing_0.2.2.2.2.2.1
theorem d_MD_nothing_9 : decode prog_12_method_30_code 9 = .ok (.getfield 41, 3) := F_MD_nothing_0.2.2.2.2.2.2.1
theorem d_MD_nothing_12 : decode prog_12_method_30_code 12 = .ok (.iload_n 1, 1) := F_MD_nothing_0.2.2.2.2.2.2.2.1
theorem d_MD_nothing_13 : decode prog_12_method_30_code 13 = .ok (.iload_n 1, 1) := F_MD_nothing_0.2.2.2.2.2.2.2.2.1
theorem d_MD_nothing_14 : decode prog_12_method_30_code 14 = .ok (.iconst 4, 1) := F_MD_nothing_0.2.2.2.2.2.2.2.2.2.1
theorem d_MD_nothing_15 : decode prog_12_method_30_code 15 = .ok (.irem, 1) := F_MD_nothing_0.2.2.2.2.2.2.2.2.2.2.1
theorem d_MD_nothing_16 : decode prog_12_method_30_code 16 = .ok (.ifCond .ne (7), 3) := F_MD_nothing_0.2.2.2.2.2.2.2.2.2.2.2.1
theorem d_MD_nothing_19 : decode prog_12_method_30_code 19 = .ok (.lconst 1, 1) := F_MD_nothing_0.2.2.2.2.2.2.2.2.2.2.2.2.1
theorem d_MD_nothing_20 : decode prog_12_method_30_code 20 = .ok (.goto (4), 3) := F_MD_nothing_0.2.2.2.2.2.2.2.2.2.2.2.2.2.1
theorem d_MD_nothing_23 : decode prog_12_method_30_code 23 = .ok (.lconst 0, 1) := F_MD_nothing_0.2.2.2.2.2.2.2.2.2.2.2.2.2.2.1
theorem d_MD_nothing_24 : decode prog_12_method_30_code 24 = .ok (.lastore, 1) := F_MD_nothing_0.2.2.2.2.2.2.2.2.2.2.2.2.2.2.2.1
theorem d_MD_nothing_25 : decode prog_12_method_30_code 25 = .ok (.iinc 1 (1), 3) := F_MD_nothing_0.2.2.2.2.2.2.2.2.2.2.2.2.2.2.2.2.1
theorem d_MD_nothing_28 : decode prog_12_method_30_code 28 = .ok (.goto (-26), 3) := F_MD_nothing_0.2.2.2.2.2.2.2.2.2.2.2.2.2.2.2.2.2.1
theorem d_MD_nothing_31 : decode prog_12_method_30_code 31 = .ok (.return_, 1) := F_MD_nothing_0.2.2.2.2.2.2.2.2.2.2.2.2.2.2.2.2.2.2.1
theorem F_MD_goesOn_0 : Jvm.Free.DS.Facts prog_12_method_60_code 0 [(.aload_n 0, 1), (.aload_n 0, 1), (.getfield 44, 3), (.iload_n 1, 1), (.invokevirtual 274, 3), (.iconst 0, 1), (.istore_n 2, 1), (.iload_n 2, 1), (.bipush (9), 2), (.if_icmp .ge (21), 3), (.aload_n 0, 1), (.getfield 47, 3), (.iload_n 2, 1), (.aload_n 0, 1), (.getfield 41, 3), (.iload_n 2, 1), (.laload, 1), (.lastore, 1), (.iinc 2 (1), 3), (.goto (-21), 3), (.aload_n 0, 1), (.getfield 41, 3), (.aload_n 0, 1), (.getfield 44, 3), (.aload_n 0, 1), (.getfield 47, 3), (.invokestatic 234, 3), (.aload_n 0, 1), (.getfield 41, 3), (.invokestatic 220, 3), (.aload_n 0, 1), (.invokevirtual 172, 3)] := Jvm.Free.DS.facts 0 _ (by decide +kernel) (by decide +kernel)
theorem d_MD_goesOn_0 : decode prog_12_method_60_code 0 = .ok (.aload_n 0, 1) := F_MD_goesOn_0.1
theorem d_MD_goesOn_1 : decode prog_12_method_60_code 1 = .ok (.aload_n 0, 1) := F_MD_goesOn_0.2.1
theorem d_MD_goesOn_2 : decode prog_12_method_60_code 2 = .ok (.getfield 44, 3) := F_MD_goesOn_0.2.2.1
theorem d_MD_goesOn_5 : decode prog_12_method_60_code 5 = .ok (.iload_n 1, 1) := F_MD_goesOn_0.2.2.2.1
theorem d_MD_goesOn_6 : decode prog_12_method_60_code 6 = .ok (.invokevirtual 274, 3) := F_MD_goesOn_0.2.2.2.2.1
theorem d_MD_goesOn_9 : decode prog_12_method_60_code 9 = .ok (.iconst 0, 1) := F_MD_goesOn_0.2.2.2.2.2.1
theorem d_MD_goesOn_10 : decode prog_12_method_60_code 10 = .ok (.istore_n 2, 1) := F_MD_goesOn_0.2.2.2.2.2.2.1
theorem d_MD_goesOn_11 : decode prog_12_method_60_code 11 = .ok (.iload_n 2, 1) := F_MD_goesOn_0.2.2.2.2.2.2.2.1
theorem d_MD_goesOn_12 : decode prog_12_method_60_code 12 = .ok (.bipush (9), 2) := F_MD_goesOn_0.2.2.2.2.2.2.2.2.1
theorem d_MD_goesOn_14 : decode prog_12_method_60_code 14 = .ok (.if_icmp .ge (21), 3) := F_MD_goesOn_0.2.2.2.2.2.2.2.2.2.1
theorem d_MD_goesOn_17 : decode prog_12_method_60_code 17 = .ok (.aload_n 0, 1) := F_MD_goesOn_0.2.2.2.2.2.2.2.2.2.2.1
theorem d_MD_goesOn_18 : decode prog_12_method_60_code 18 = .ok (.getfield 47, 3) := F_MD_goesOn_0.2.2.2.2.2.2.2.2.2.2.2.1
theorem d_MD_goesOn_21 : decode prog_12_method_60_code 21 = .ok (.iload_n 2, 1) := F_MD_goesOn_0.2.2.2.2.2.2.2.2.2.2.2.2.1
theorem d_MD_goesOn_22 : decode prog_12_method_60_code 22 = .ok (.aload_n 0, 1) := F_MD_goesOn_0.2.2.2.2.2.2.2.2.2.2.2.2.2.1
theorem d_MD_goesOn_23 : decode prog_12_method_60_code 23 = .ok (.getfield 41, 3) := F_MD_goesOn_0.2.2.2.2.2.2.2.2.2.2.2.2.2.2.1
theorem d_MD_goesOn_26 : decode prog_12_method_60_code 26 = .ok (.iload_n 2, 1) := F_MD_goesOn_0.2.2.2.2.2.2.2.2.2.2.2.2.2.2.2.1
theorem d_MD_goesOn_27 : decode prog_12_method_60_code 27 = .ok (.laload, 1) := F_MD_goesOn_0.2.2.2.2.2.2.2.2.2.2.2.2.2.2.2.2.1
theorem d_MD_goesOn_28 : decode prog_12_method_60_code 28 = .ok (.lastore, 1) := F_MD_goesOn_0.2.2.2.2.2.2.2.2.2.2.2.2.2.2.2.2.2.1
theorem d_MD_goesOn_29 : decode prog_12_method_60_code 29 = .ok (.iinc 2 (1), 3) := F_MD_goesOn_0.2.2.2.2.2.2.2.2.2.2.2.2.2.2.2.2.2.2.1
theorem d_MD_goesOn_32 : decode prog_12_method_60_code 32 = .ok (.goto (-21), 3) := F_MD_goesOn_0.2.2.2.2.2.2.2.2.2.2.2.2.2.2.2.2.2.2.2.1
theorem d_MD_goesOn_35 : decode prog_12_method_60_code 35 = .ok (.aload_n 0, 1) := F_MD_goesOn_0.2.2.2.2.2.2.2.2.2.2.2.2.2.2.2.2.2.2.2.2.1
theorem d_MD_goesOn_36 : decode prog_12_method_60_code 36 = .ok (.getfield 41, 3) := F_MD_goesOn_0.2.2.2.2.2.2.2.2.2.2.2.2.2.2.2.2.2.2.2.2.2.1
theorem d_MD_goesOn_39 : decode prog_12_method_60_code 39 = .ok (.aload_n 0, 1) := F_MD_goesOn_0.2.2.2.2.2.2.2.2.2.2.2.2.2.2.2.2.2.2.2.2.2.2.1
theorem d_MD_goesOn_40 : decode prog_12_method_60_code 40 = .ok (.getfield 44, 3) := F_MD_goesOn_0.2.2.2.2.2.2.2.2.2.2.2.2.2.2.2.2.2.2.2.2.2.2.2.1
theorem d_MD_goesOn_43 : decode prog_12_method_60_code 43 = .ok (.aload_n 0, 1) := F_MD_goesOn_0.2.2.2.2.2.2.2.2.2.2.2.2.2.2.2.2.2.2.2.2.2.2.2.2.1
theorem d_MD_goesOn_44 : decode prog_12_method_60_code 44 = .ok (.getfield 47, 3) := F_MD_goesOn_0.2.2.2.2.2.2.2.2.2.2.2.2.2.2.2.2.2.2.2.2.2.2.2.2.2.1
theorem d_MD_goesOn_47 : decode prog_12_method_60_code 47 = .ok (.invokestatic 234, 3) := F_MD_goesOn_0.2.2.2.2.2.2.2.2.2.2.2.2.2.2.2.2.2.2.2.2.2.2.2.2.2.2.1
theorem d_MD_goesOn_50 : decode prog_12_method_60_code 50 = .ok (.aload_n 0, 1) := F_MD_goesOn_0.2.2.2.2.2.2.2.2.2.2.2.2.2.2.2.2.2.2.2.2.2.2.2.2.2.2.2.1
theorem d_MD_goesOn_51 : decode prog_12_method_60_code 51 = .ok (.getfield 41, 3) := F_MD_goesOn_0.2.2.2.2.2.2.2.2.2.2.2.2.2.2.2.2.2.2.2.2.2.2.2.2.2.2.2.2.1
theorem d_MD_goesOn_54 : decode prog_12_method_60_code 54 = .ok (.invokestatic 220, 3) := F_MD_goesOn_0.2.2.2.2.2.2.2.2.2.2.2.2.2.2.2.2.2.2.2.2.2.2.2.2.2.2.2.2.2.1
theorem d_MD_goesOn_57 : decode prog_12_method_60_code 57 = .ok (.aload_n 0, 1) := F_MD_goesOn_0.2.2.2.2.2.2.2.2.2.2.2.2.2.2.2.2.2.2.2.2.2.2.2.2.2.2.2.2.2.2.1
theorem d_MD_goesOn_58 : decode prog_12_method_60_code 58 = .ok (.invokevirtual 172, 3) := F_MD_goesOn_0.2.2.2.2.2.2.2.2.2.2.2.2.2.2.2.2.2.2.2.2.2.2.2.2.2.2.2.2.2.2.2.1
theorem F_MD_goesOn_61 : Jvm.Free.DS.Facts prog_12_method_60_code 61 [(.ifCond .ne (7), 3), (.iconst 1, 1), (.goto (4), 3), (.iconst 0, 1), (.ireturn, 1)] := Jvm.Free.DS.facts 61 _ (by decide +kernel) (by decide +kernel)
theorem d_MD_goesOn_61 : decode prog_12_method_60_code 61 = .ok (.ifCond .ne (7), 3) := F_MD_goesOn_61.1
theorem d_MD_goesOn_64 : decode prog_12_method_60_code 64 = .ok (.iconst 1, 1) := F_MD_goesOn_61.2.1
theorem d_MD_goesOn_65 : decode prog_12_method_60_code 65 = .ok (.goto (4), 3) := F_MD_goesOn_61.2.2.1
theorem d_MD_goesOn_68 : decode prog_12_method_60_code 68 = .ok (.iconst 0, 1) := F_MD_goesOn_61.2.2.2.1
theorem d_MD_goesOn_69 : decode prog_12_method_60_code 69 = .ok (.ireturn, 1) := F_MD_goesOn_61.2.2.2.2.1
theorem F_MD_drop_0 : Jvm.Free.DS.Facts prog_12_method_62_code 0 [(.aload_n 0, 1), (.iconst 0, 1), (.putfield 74, 3), (.aload_n 0, 1), (.iload_n 1, 1), (.invokevirtual 241, 3), (.ifCond .ne (5), 3), (.iconst (-1), 1), (.ireturn, 1), (.aload_n 0, 1), (.invokevirtual 268, 3), (.bipush (9), 2), (.iload_n 1, 1), (.imul, 1), (.istore_n 2, 1), (.iload_n 2, 1), (.sipush (135), 3), (.if_icmp .ge (24), 3), (.aload_n 0, 1), (.getfield 21, 3), (.iload_n 2, 1), (.aload_n 0, 1), (.getfield 21, 3), (.iload_n 2, 1), (.bipush (9), 2), (.iadd, 1), (.laload, 1), (.lastore, 1), (.iinc 2 (1), 3), (.goto (-25), 3), (.aload_n 0, 1), (.getfield 21, 3)] := Jvm.Free.DS.facts 0 _ (by decide +kernel) (by decide +kernel)
theorem d_MD_drop_0 : decode prog_12_method_62_code 0 = .ok (.aload_n 0, 1) := F_MD_drop_0.1
theorem d_MD_drop_1 : decode prog_12_method_62_code 1 = .ok (.iconst 0, 1) := F_MD_drop_0.2.1
theorem d_MD_drop_2 : decode prog_12_method_62_code 2 = .ok (.putfield 74, 3) := F_MD_drop_0.2.2.1
theorem d_MD_drop_5 : decode prog_12_method_62_code 5 = .ok (.aload_n 0, 1) := F_MD_drop_0.2.2.2.1
theorem d_MD_drop_6 : decode prog_12_method_62_code 6 = .ok (.iload_n 1, 1) := F_MD_drop_0.2.2.2.2.1
theorem d_MD_drop_7 : decode prog_12_method_62_code 7 = .ok (.invokevirtual 241, 3) := F_MD_drop_0.2.2.2.2.2.1
theorem d_MD_drop_10 : decode prog_12_method_62_code 10 = .ok (.ifCond .ne (5), 3) := F_MD_drop_0.2.2.2.2.2.2.1
theorem d_MD_drop_13 : decode prog_12_method_62_code 13 = .ok (.iconst (-1), 1) := F_MD_drop_0.2.2.2.2.2.2.2.1
theorem d_MD_drop_14 : decode prog_12_method_62_code 14 = .ok (.ireturn, 1) := F_MD_drop_0.2.2.2.2.2.2.2.2.1
theorem d_MD_drop_15 : decode prog_12_method_62_code 15 = .ok (.aload_n 0, 1) := F_MD_drop_0.2.2.2.2.2.2.2.2.2.1
theorem d_MD_drop_16 : decode prog_12_method_62_code 16 = .ok (.invokevirtual 268, 3) := F_MD_drop_0.2.2.2.2.2.2.2.2.2.2.1
theorem d_MD_drop_19 : decode prog_12_method_62_code 19 = .ok (.bipush (9), 2) := F_MD_drop_0.2.2.2.2.2.2.2.2.2.2.2.1
theorem d_MD_drop_21 : decode prog_12_method_62_code 21 = .ok (.iload_n 1, 1) := F_MD_drop_0.2.2.2.2.2.2.2.2.2.2.2.2.1
theorem d_MD_drop_22 : decode prog_12_method_62_code 22 = .ok (.imul, 1) := F_MD_drop_0.2.2.2.2.2.2.2.2.2.2.2.2.2.1
theorem d_MD_drop_23 : decode prog_12_method_62_code 23 = .ok (.istore_n 2, 1) := F_MD_drop_0.2.2.2.2.2.2.2.2.2.2.2.2.2.2.1
theorem d_MD_drop_24 : decode prog_12_method_62_code 24 = .ok (.iload_n 2, 1) := F_MD_drop_0.2.2.2.2.2.2.2.2.2.2.2.2.2.2.2.1
theorem d_MD_drop_25 : decode prog_12_method_62_code 25 = .ok (.sipush (135), 3) := F_MD_drop_0.2.2.2.2.2.2.2.2.2.2.2.2.2.2.2.2.1
theorem d_MD_drop_28 : decode prog_12_method_62_code 28 = .ok (.if_icmp .ge (24), 3) := F_MD_drop_0.2.2.2.2.2.2.2.2.2.2.2.2.2.2.2.2.2.1
theorem d_MD_drop_31 : decode prog_12_method_62_code 31 = .ok (.aload_n 0, 1) := F_MD_drop_0.2.2.2.2.2.2.2.2.2.2.2.2.2.2.2.2.2.2.1
theorem d_MD_drop_32 : decode prog_12_method_62_code 32 = .ok (.getfield 21, 3) := F_MD_drop_0.2.2.2.2.2.2.2.2.2.2.2.2.2.2.2.2.2.2.2.1
theorem d_MD_drop_35 : decode prog_12_method_62_code 35 = .ok (.iload_n 2, 1) := F_MD_drop_0.2.2.2.2.2.2.2.2.2.2.2.2.2.2.2.2.2.2.2.2.1
theorem d_MD_drop_36 : decode prog_12_method_62_code 36 = .ok (.aload_n 0, 1) := F_MD_drop_0.2.2.2.2.2.2.2.2.2.2.2.2.2.2.2.2.2.2.2.2.2.1
theorem d_MD_drop_37 : decode prog_12_method_62_code 37 = .ok (.getfield 21, 3) := F_MD_drop_0.2.2.2.2.2.2.2.2.2.2.2.2.2.2.2.2.2.2.2.2.2.2.1
theorem d_MD_drop_40 : decode prog_12_method_62_code 40 = .ok (.iload_n 2, 1) := F_MD_drop_0.2.2.2.2.2.2.2.2.2.2.2.2.2.2.2.2.2.2.2.2.2.2.2.1
theorem d_MD_drop_41 : decode prog_12_method_62_code 41 = .ok (.bipush (9), 2) := F_MD_drop_0.2.2.2.2.2.2.2.2.2.2.2.2.2.2.2.2.2.2.2.2.2.2.2.2.1
theorem d_MD_drop_43 : decode prog_12_method_62_code 43 = .ok (.iadd, 1) := F_MD_drop_0.2.2.2.2.2.2.2.2.2.2.2.2.2.2.2.2.2.2.2.2.2.2.2.2.2.1
theorem d_MD_drop_44 : decode prog_12_method_62_code 44 = .ok (.laload, 1) := F_MD_drop_0.2.2.2.2.2.2.2.2.2.2.2.2.2.2.2.2.2.2.2.2.2.2.2.2.2.2.1
theorem d_MD_drop_45 : decode prog_12_method_62_code 45 = .ok (.lastore, 1) := F_MD_drop_0.2.2.2.2.2.2.2.2.2.2.2.2.2.2.2.2.2.2.2.2.2.2.2.2.2.2.2.1
theorem d_MD_drop_46 : decode prog_12_method_62_code 46 = .ok (.iinc 2 (1), 3) := F_MD_drop_0.2.2.2.2.2.2.2.2.2.2.2.2.2.2.2.2.2.2.2.2.2.2.2.2.2.2.2.2.1
theorem d_MD_drop_49 : decode prog_12_method_62_code 49 = .ok (.goto (-25), 3) := F_MD_drop_0.2.2.2.2.2.2.2.2.2.2.2.2.2.2.2.2.2.2.2.2.2.2.2.2.2.2.2.2.2.1
theorem d_MD_drop_52 : decode prog_12_method_62_code 52 = .ok (.aload_n 0, 1) := F_MD_drop_0.2.2.2.2.2.2.2.2.2.2.2.2.2.2.2.2.2.2.2.2.2.2.2.2.2.2.2.2.2.2.1
theorem d_MD_drop_53 : decode prog_12_method_62_code 53 = .ok (.getfield 21, 3) := F_MD_drop_0.2.2.2.2.2.2.2.2.2.2.2.2.2.2.2.2.2.2.2.2.2.2.2.2.2.2.2.2.2.2.2.1
theorem F_MD_drop_56 : Jvm.Free.DS.Facts prog_12_method_62_code 56 [(.sipush (168), 3), (.dup2, 1), (.laload, 1), (.lconst 1, 1), (.lsub, 1), (.lastore, 1), (.aload_n 0, 1), (.getfield 21, 3), (.sipush (168), 3), (.laload, 1), (.l2i, 1), (.ireturn, 1)] := Jvm.Free.DS.facts 56 _ (by decide +kernel) (by decide +kernel)
theorem d_MD_drop_56 : decode prog_12_method_62_code 56 = .ok (.sipush (168), 3) := F_MD_drop_56.1
theorem d_MD_drop_59 : decode prog_12_method_62_code 59 = .ok (.dup2, 1) := F_MD_drop_56.2.1
theorem d_MD_drop_60 : decode prog_12_method_62_code 60 = .ok (.laload, 1) := F_MD_drop_56.2.2.1
theorem d_MD_drop_61 : decode prog_12_method_62_code 61 = .ok (.lconst 1, 1) := F_MD_drop_56.2.2.2.1
theorem d_MD_drop_62 : decode prog_12_method_62_code 62 = .ok (.lsub, 1) := F_MD_drop_56.2.2.2.2.1
theorem d_MD_drop_63 : decode prog_12_method_62_code 63 = .ok (.lastore, 1) := F_MD_drop_56.2.2.2.2.2.1
theorem d_MD_drop_64 : decode prog_12_method_62_code 64 = .ok (.aload_n 0, 1) := F_MD_drop_56.2.2.2.2.2.2.1
theorem d_MD_drop_65 : decode prog_12_method_62_code 65 = .ok (.getfield 21, 3) := F_MD_drop_56.2.2.2.2.2.2.2.1
theorem d_MD_drop_68 : decode prog_12_method_62_code 68 = .ok (.sipush (168), 3) := F_MD_drop_56.2.2.2.2.2.2.2.2.1
theorem d_MD_drop_71 : decode prog_12_method_62_code 71 = .ok (.laload, 1) := F_MD_drop_56.2.2.2.2.2.2.2.2.2.1
theorem d_MD_drop_72 : decode prog_12_method_62_code 72 = .ok (.l2i, 1) := F_MD_drop_56.2.2.2.2.2.2.2.2.2.2.1
theorem d_MD_drop_73 : decode prog_12_method_62_code 73 = .ok (.ireturn, 1) := F_MD_drop_56.2.2.2.2.2.2.2.2.2.2.2.1
theorem F_MD_tell_0 : Jvm.Free.DS.Facts prog_12_method_64_code 0 [(.aload_n 0, 1), (.iconst 0, 1), (.putfield 74, 3), (.iload_n 1, 1), (.invokestatic 289, 3), (.ifCond .eq (17), 3), (.iload_n 2, 1), (.invokestatic 289, 3), (.ifCond .eq (10), 3), (.iload_n 3, 1), (.invokestatic 289, 3), (.ifCond .ne (5), 3), (.iconst (-1), 1), (.ireturn, 1), (.aload_n 0, 1), (.getfield 21, 3), (.sipush (169), 3), (.laload, 1), (.ldc2_w 292, 3), (.lcmp, 1), (.ifCond .eq (15), 3), (.iload_n 1, 1), (.ifCond .ne (14), 3), (.iload_n 2, 1), (.ifCond .ne (10), 3), (.iload_n 3, 1), (.ifCond .ne (6), 3), (.bipush (-2), 2), (.ireturn, 1), (.aload_n 0, 1), (.invokevirtual 268, 3), (.aload_n 0, 1)] := Jvm.Free.DS.facts 0 _ (by decide +kernel) (by decide +kernel)
theorem d_MD_tell_0 : decode prog_12_method_64_code 0 = .ok (.aload_n 0, 1) := F_MD_tell_0.1
theorem d_MD_tell_1 : decode prog_12_method_64_code 1 = .ok (.iconst 0, 1) := F_MD_tell_0.2.1
theorem d_MD_tell_2 : decode prog_12_method_64_code 2 = .ok (.putfield 74, 3) := F_MD_tell_0.2.2.1
theorem d_MD_tell_5 : decode prog_12_method_64_code 5 = .ok (.iload_n 1, 1) := F_MD_tell_0.2.2.2.1
theorem d_MD_tell_6 : decode prog_12_method_64_code 6 = .ok (.invokestatic 289, 3) := F_MD_tell_0.2.2.2.2.1
theorem d_MD_tell_9 : decode prog_12_method_64_code 9 = .ok (.ifCond .eq (17), 3) := F_MD_tell_0.2.2.2.2.2.1
theorem d_MD_tell_12 : decode prog_12_method_64_code 12 = .ok (.iload_n 2, 1) := F_MD_tell_0.2.2.2.2.2.2.1
theorem d_MD_tell_13 : decode prog_12_method_64_code 13 = .ok (.invokestatic 289, 3) := F_MD_tell_0.2.2.2.2.2.2.2.1
theorem d_MD_tell_16 : decode prog_12_method_64_code 16 = .ok (.ifCond .eq (10), 3) := F_MD_tell_0.2.2.2.2.2.2.2.2.1
theorem d_MD_tell_19 : decode prog_12_method_64_code 19 = .ok (.iload_n 3, 1) := F_MD_tell_0.2.2.2.2.2.2.2.2.2.1
theorem d_MD_tell_20 : decode prog_12_method_64_code 20 = .ok (.invokestatic 289, 3) := F_MD_tell_0.2.2.2.2.2.2.2.2.2.2.1
theorem d_MD_tell_23 : decode prog_12_method_64_code 23 = .ok (.ifCond .ne (5), 3) := F_MD_tell_0.2.2.2.2.2.2.2.2.2.2.2.1
theorem d_MD_tell_26 : decode prog_12_method_64_code 26 = .ok (.iconst (-1), 1) := F_MD_tell_0.2.2.2.2.2.2.2.2.2.2.2.2.1
theorem d_MD_tell_27 : decode prog_12_method_64_code 27 = .ok (.ireturn, 1) := F_MD_tell_0.2.2.2.2.2.2.2.2.2.2.2.2.2.1
theorem d_MD_tell_28 : decode prog_12_method_64_code 28 = .ok (.aload_n 0, 1) := F_MD_tell_0.2.2.2.2.2.2.2.2.2.2.2.2.2.2.1
theorem d_MD_tell_29 : decode prog_12_method_64_code 29 = .ok (.getfield 21, 3) := F_MD_tell_0.2.2.2.2.2.2.2.2.2.2.2.2.2.2.2.1
theorem d_MD_tell_32 : decode prog_12_method_64_code 32 = .ok (.sipush (169), 3) := F_MD_tell_0.2.2.2.2.2.2.2.2.2.2.2.2.2.2.2.2.1
theorem d_MD_tell_35 : decode prog_12_method_64_code 35 = .ok (.laload, 1) := F_MD_tell_0.2.2.2.2.2.2.2.2.2.2.2.2.2.2.2.2.2.1
theorem d_MD_tell_36 : decode prog_12_method_64_code 36 = .ok (.ldc2_w 292, 3) := F_MD_tell_0.2.2.2.2.2.2.2.2.2.2.2.2.2.2.2.2.2.2.1
theorem d_MD_tell_39 : decode prog_12_method_64_code 39 = .ok (.lcmp, 1) := F_MD_tell_0.2.2.2.2.2.2.2.2.2.2.2.2.2.2.2.2.2.2.2.1
theorem d_MD_tell_40 : decode prog_12_method_64_code 40 = .ok (.ifCond .eq (15), 3) := F_MD_tell_0.2.2.2.2.2.2.2.2.2.2.2.2.2.2.2.2.2.2.2.2.1
theorem d_MD_tell_43 : decode prog_12_method_64_code 43 = .ok (.iload_n 1, 1) := F_MD_tell_0.2.2.2.2.2.2.2.2.2.2.2.2.2.2.2.2.2.2.2.2.2.1
theorem d_MD_tell_44 : decode prog_12_method_64_code 44 = .ok (.ifCond .ne (14), 3) := F_MD_tell_0.2.2.2.2.2.2.2.2.2.2.2.2.2.2.2.2.2.2.2.2.2.2.1
theorem d_MD_tell_47 : decode prog_12_method_64_code 47 = .ok (.iload_n 2, 1) := F_MD_tell_0.2.2.2.2.2.2.2.2.2.2.2.2.2.2.2.2.2.2.2.2.2.2.2.1
theorem d_MD_tell_48 : decode prog_12_method_64_code 48 = .ok (.ifCond .ne (10), 3) := F_MD_tell_0.2.2.2.2.2.2.2.2.2.2.2.2.2.2.2.2.2.2.2.2.2.2.2.2.1
theorem d_MD_tell_51 : decode prog_12_method_64_code 51 = .ok (.iload_n 3, 1) := F_MD_tell_0.2.2.2.2.2.2.2.2.2.2.2.2.2.2.2.2.2.2.2.2.2.2.2.2.2.1
theorem d_MD_tell_52 : decode prog_12_method_64_code 52 = .ok (.ifCond .ne (6), 3) := F_MD_tell_0.2.2.2.2.2.2.2.2.2.2.2.2.2.2.2.2.2.2.2.2.2.2.2.2.2.2.1
theorem d_MD_tell_55 : decode prog_12_method_64_code 55 = .ok (.bipush (-2), 2) := F_MD_tell_0.2.2.2.2.2.2.2.2.2.2.2.2.2.2.2.2.2.2.2.2.2.2.2.2.2.2.2.1
theorem d_MD_tell_57 : decode prog_12_method_64_code 57 = .ok (.ireturn, 1) := F_MD_tell_0.2.2.2.2.2.2.2.2.2.2.2.2.2.2.2.2.2.2.2.2.2.2.2.2.2.2.2.2.1
theorem d_MD_tell_58 : decode prog_12_method_64_code 58 = .ok (.aload_n 0, 1) := F_MD_tell_0.2.2.2.2.2.2.2.2.2.2.2.2.2.2.2.2.2.2.2.2.2.2.2.2.2.2.2.2.2.1
theorem d_MD_tell_59 : decode prog_12_method_64_code 59 = .ok (.invokevirtual 268, 3) := F_MD_tell_0.2.2.2.2.2.2.2.2.2.2.2.2.2.2.2.2.2.2.2.2.2.2.2.2.2.2.2.2.2.2.1
theorem d_MD_tell_62 : decode prog_12_method_64_code 62 = .ok (.aload_n 0, 1) := F_MD_tell_0.2.2.2.2.2.2.2.2.2.2.2.2.2.2.2.2.2.2.2.2.2.2.2.2.2.2.2.2.2.2.2.1
theorem F_MD_tell_63 : Jvm.Free.DS.Facts prog_12_method_64_code 63 [(.getfield 21, 3), (.sipush (169), 3), (.laload, 1), (.l2i, 1), (.istore 4, 2), (.aload_n 0, 1), (.iload_n 1, 1), (.i2l, 1), (.iload_n 2, 1), (.i2l, 1), (.iload_n 3, 1), (.i2l, 1), (.invokevirtual 179, 3), (.aload_n 0, 1), (.aload_n 0, 1), (.getfield 21, 3), (.iload 4, 2), (.invokevirtual 183, 3), (.aload_n 0, 1), (.getfield 21, 3), (.sipush (169), 3), (.dup2, 1), (.laload, 1), (.lconst 1, 1), (.ladd, 1), (.lastore, 1), (.iload 4, 2), (.ireturn, 1)] := Jvm.Free.DS.facts 63 _ (by decide +kernel) (by decide +kernel)
theorem d_MD_tell_63 : decode prog_12_method_64_code 63 = .ok (.getfield 21, 3) := F_MD_tell_63.1
theorem d_MD_tell_66 : decode prog_12_method_64_code 66 = .ok (.sipush (169), 3) := F_MD_tell_63.2.1
theorem d_MD_tell_69 : decode prog_12_method_64_code 69 = .ok (.laload, 1) := F_MD_tell_63.2.2.1
theorem d_MD_tell_70 : decode prog_12_method_64_code 70 = .ok (.l2i, 1) := F_MD_tell_63.2.2.2.1
theorem d_MD_tell_71 : decode prog_12_method_64_code 71 = .ok (.istore 4, 2) := F_MD_tell_63.2.2.2.2.1
theorem d_MD_tell_73 : decode prog_12_method_64_code 73 = .ok (.aload_n 0, 1) := F_MD_tell_63.2.2.2.2.2.1
theorem d_MD_tell_74 : decode prog_12_method_64_code 74 = .ok (.iload_n 1, 1) := F_MD_tell_63.2.2.2.2.2.2.1
theorem d_MD_tell_75 : decode prog_12_method_64_code 75 = .ok (.i2l, 1) := F_MD_tell_63.2.2.2.2.2.2.2.1
theorem d_MD_tell_76 : decode prog_12_method_64_code 76 = .ok (.iload_n 2, 1) := F_MD_tell_63.2.2.2.2.2.2.2.2.1
theorem d_MD_tell_77 : decode prog_12_method_64_code 77 = .ok (.i2l, 1) := F_MD_tell_63.2.2.2.2.2.2.2.2.2.1
theorem d_MD_tell_78 : decode prog_12_method_64_code 78 = .ok (.iload_n 3, 1) := F_MD_tell_63.2.2.2.2.2.2.2.2.2.2.1
theorem d_MD_tell_79 : decode prog_12_method_64_code 79 = .ok (.i2l, 1) := F_MD_tell_63.2.2.2.2.2.2.2.2.2.2.2.1
theorem d_MD_tell_80 : decode prog_12_method_64_code 80 = .ok (.invokevirtual 179, 3) := F_MD_tell_63.2.2.2.2.2.2.2.2.2.2.2.2.1
theorem d_MD_tell_83 : decode prog_12_method_64_code 83 = .ok (.aload_n 0, 1) := F_MD_tell_63.2.2.2.2.2.2.2.2.2.2.2.2.2.1
theorem d_MD_tell_84 : decode prog_12_method_64_code 84 = .ok (.aload_n 0, 1) := F_MD_tell_63.2.2.2.2.2.2.2.2.2.2.2.2.2.2.1
theorem d_MD_tell_85 : decode prog_12_method_64_code 85 = .ok (.getfield 21, 3) := F_MD_tell_63.2.2.2.2.2.2.2.2.2.2.2.2.2.2.2.1
theorem d_MD_tell_88 : decode prog_12_method_64_code 88 = .ok (.iload 4, 2) := F_MD_tell_63.2.2.2.2.2.2.2.2.2.2.2.2.2.2.2.2.1
theorem d_MD_tell_90 : decode prog_12_method_64_code 90 = .ok (.invokevirtual 183, 3) := F_MD_tell_63.2.2.2.2.2.2.2.2.2.2.2.2.2.2.2.2.2.1
theorem d_MD_tell_93 : decode prog_12_method_64_code 93 = .ok (.aload_n 0, 1) := F_MD_tell_63.2.2.2.2.2.2.2.2.2.2.2.2.2.2.2.2.2.2.1
theorem d_MD_tell_94 : decode prog_12_method_64_code 94 = .ok (.getfield 21, 3) := F_MD_tell_63.2.2.2.2.2.2.2.2.2.2.2.2.2.2.2.2.2.2.2.1
theorem d_MD_tell_97 : decode prog_12_method_64_code 97 = .ok (.sipush (169), 3) := F_MD_tell_63.2.2.2.2.2.2.2.2.2.2.2.2.2.2.2.2.2.2.2.2.1
theorem d_MD_tell_100 : decode prog_12_method_64_code 100 = .ok (.dup2, 1) := F_MD_tell_63.2.2.2.2.2.2.2.2.2.2.2.2.2.2.2.2.2.2.2.2.2.1
theorem d_MD_tell_101 : decode prog_12_method_64_code 101 = .ok (.laload, 1) := F_MD_tell_63.2.2.2.2.2.2.2.2.2.2.2.2.2.2.2.2.2.2.2.2.2.2.1
theorem d_MD_tell_102 : decode prog_12_method_64_code 102 = .ok (.lconst 1, 1) := F_MD_tell_63.2.2.2.2.2.2.2.2.2.2.2.2.2.2.2.2.2.2.2.2.2.2.2.1
theorem d_MD_tell_103 : decode prog_12_method_64_code 103 = .ok (.ladd, 1) := F_MD_tell_63.2.2.2.2.2.2.2.2.2.2.2.2.2.2.2.2.2.2.2.2.2.2.2.2.1
theorem d_MD_tell_104 : decode prog_12_method_64_code 104 = .ok (.lastore, 1) := F_MD_tell_63.2.2.2.2.2.2.2.2.2.2.2.2.2.2.2.2.2.2.2.2.2.2.2.2.2.1
theorem d_MD_tell_105 : decode prog_12_method_64_code 105 = .ok (.iload 4, 2) := F_MD_tell_63.2.2.2.2.2.2.2.2.2.2.2.2.2.2.2.2.2.2.2.2.2.2.2.2.2.2.1
theorem d_MD_tell_107 : decode prog_12_method_64_code 107 = .ok (.ireturn, 1) := F_MD_tell_63.2.2.2.2.2.2.2.2.2.2.2.2.2.2.2.2.2.2.2.2.2.2.2.2.2.2.2.1
theorem F_MD_isEdge_0 : Jvm.Free.DS.Facts prog_12_method_63_code 0 [(.iload_n 0, 1), (.sipush (-9999), 3), (.if_icmp .lt (14), 3), (.iload_n 0, 1), (.sipush (9999), 3), (.if_icmp .gt (7), 3), (.iconst 1, 1), (.goto (4), 3), (.iconst 0, 1), (.ireturn, 1)] := Jvm.Free.DS.facts 0 _ (by decide +kernel) (by decide +kernel)
theorem d_MD_isEdge_0 : decode prog_12_method_63_code 0 = .ok (.iload_n 0, 1) := F_MD_isEdge_0.1
theorem d_MD_isEdge_1 : decode prog_12_method_63_code 1 = .ok (.sipush (-9999), 3) := F_MD_isEdge_0.2.1
theorem d_MD_isEdge_4 : decode prog_12_method_63_code 4 = .ok (.if_icmp .lt (14), 3) := F_MD_isEdge_0.2.2.1
theorem d_MD_isEdge_7 : decode prog_12_method_63_code 7 = .ok (.iload_n 0, 1) := F_MD_isEdge_0.2.2.2.1
theorem d_MD_isEdge_8 : decode prog_12_method_63_code 8 = .ok (.sipush (9999), 3) := F_MD_isEdge_0.2.2.2.2.1
theorem d_MD_isEdge_11 : decode prog_12_method_63_code 11 = .ok (.if_icmp .gt (7), 3) := F_MD_isEdge_0.2.2.2.2.2.1
theorem d_MD_isEdge_14 : decode prog_12_method_63_code 14 = .ok (.iconst 1, 1) := F_MD_isEdge_0.2.2.2.2.2.2.1
theorem d_MD_isEdge_15 : decode prog_12_method_63_code 15 = .ok (.goto (4), 3) := F_MD_isEdge_0.2.2.2.2.2.2.2.1
theorem d_MD_isEdge_18 : decode prog_12_method_63_code 18 = .ok (.iconst 0, 1) := F_MD_isEdge_0.2.2.2.2.2.2.2.2.1
theorem d_MD_isEdge_19 : decode prog_12_method_63_code 19 = .ok (.ireturn, 1) := F_MD_isEdge_0.2.2.2.2.2.2.2.2.2.1
theorem F_MD_moves_0 : Jvm.Free.DS.Facts prog_12_method_67_code 0 [(.aload_n 0, 1), (.iconst 0, 1), (.putfield 74, 3), (.aload_n 0, 1), (.iload_n 1, 1), (.invokevirtual 241, 3), (.ifCond .ne (5), 3), (.iconst (-1), 1), (.ireturn, 1), (.iconst 0, 1), (.istore_n 2, 1), (.iconst 0, 1), (.istore_n 3, 1), (.iload_n 3, 1), (.i2l, 1), (.aload_n 0, 1), (.getfield 21, 3), (.sipush (169), 3), (.laload, 1), (.lcmp, 1), (.ifCond .ge (69), 3), (.aload_n 0, 1), (.iload_n 1, 1), (.iload_n 3, 1), (.invokevirtual 298, 3), (.iconst 0, 1), (.istore 4, 2), (.iload 4, 2), (.iconst 3, 1), (.if_icmp .ge (29), 3), (.aload_n 0, 1), (.getfield 50, 3)] := Jvm.Free.DS.facts 0 _ (by decide +kernel) (by decide +kernel)
theorem d_MD_moves_0 : decode prog_12_method_67_code 0 = .ok (.aload_n 0, 1) := F_MD_moves_0.1
theorem d_MD_moves_1 : decode prog_12_method_67_code 1 = .ok (.iconst 0, 1) := F_MD_moves_0.2.1
theorem d_MD_moves_2 : decode prog_12_method_67_code 2 = .ok (.putfield 74, 3) := F_MD_moves_0.2.2.1
theorem d_MD_moves_5 : decode prog_12_method_67_code 5 = .ok (.aload_n 0, 1) := F_MD_moves_0.2.2.2.1
theorem d_MD_moves_6 : decode prog_12_method_67_code 6 = .ok (.iload_n 1, 1) := F_MD_moves_0.2.2.2.2.1
theorem d_MD_moves_7 : decode prog_12_method_67_code 7 = .ok (.invokevirtual 241, 3) := F_MD_moves_0.2.2.2.2.2.1
theorem d_MD_moves_10 : decode prog_12_method_67_code 10 = .ok (.ifCond .ne (5), 3) := F_MD_moves_0.2.2.2.2.2.2.1
theorem d_MD_moves_13 : decode prog_12_method_67_code 13 = .ok (.iconst (-1), 1) := F_MD_moves_0.2.2.2.2.2.2.2.1
theorem d_MD_moves_14 : decode prog_12_method_67_code 14 = .ok (.ireturn, 1) := F_MD_moves_0.2.2.2.2.2.2.2.2.1
theorem d_MD_moves_15 : decode prog_12_method_67_code 15 = .ok (.iconst 0, 1) := F_MD_moves_0.2.2.2.2.2.2.2.2.2.1
theorem d_MD_moves_16 : decode prog_12_method_67_code 16 = .ok (.istore_n 2, 1) := F_MD_moves_0.2.2.2.2.2.2.2.2.2.2.1
theorem d_MD_moves_17 : decode prog_12_method_67_code 17 = .ok (.iconst 0, 1) := F_MD_moves_0.2.2.2.2.2.2.2.2.2.2.2.1
theorem d_MD_moves_18 : decode prog_12_method_67_code 18 = .ok (.istore_n 3, 1) := F_MD_moves_0.2.2.2.2.2.2.2.2.2.2.2.2.1
theorem d_MD_moves_19 : decode prog_12_method_67_code 19 = .ok (.iload_n 3, 1) := F_MD_moves_0.2.2.2.2.2.2.2.2.2.2.2.2.2.1
theorem d_MD_moves_20 : decode prog_12_method_67_code 20 = .ok (.i2l, 1) := F_MD_moves_0.2.2.2.2.2.2.2.2.2.2.2.2.2.2.1
theorem d_MD_moves_21 : decode prog_12_method_67_code 21 = .ok (.aload_n 0, 1) := F_MD_moves_0.2.2.2.2.2.2.2.2.2.2.2.2.2.2.2.1
theorem d_MD_moves_22 : decode prog_12_method_67_code 22 = .ok (.getfield 21, 3) := F_MD_moves_0.2.2.2.2.2.2.2.2.2.2.2.2.2.2.2.2.1
theorem d_MD_moves_25 : decode prog_12_method_67_code 25 = .ok (.sipush (169), 3) := F_MD_moves_0.2.2.2.2.2.2.2.2.2.2.2.2.2.2.2.2.2.1
theorem d_MD_moves_28 : decode prog_12_method_67_code 28 = .ok (.laload, 1) := F_MD_moves_0.2.2.2.2.2.2.2.2.2.2.2.2.2.2.2.2.2.2.1
theorem d_MD_moves_29 : decode prog_12_method_67_code 29 = .ok (.lcmp, 1) := F_MD_moves_0.2.2.2.2.2.2.2.2.2.2.2.2.2.2.2.2.2.2.2.1
theorem d_MD_moves_30 : decode prog_12_method_67_code 30 = .ok (.ifCond .ge (69), 3) := F_MD_moves_0.2.2.2.2.2.2.2.2.2.2.2.2.2.2.2.2.2.2.2.2.1
theorem d_MD_moves_33 : decode prog_12_method_67_code 33 = .ok (.aload_n 0, 1) := F_MD_moves_0.2.2.2.2.2.2.2.2.2.2.2.2.2.2.2.2.2.2.2.2.2.1
theorem d_MD_moves_34 : decode prog_12_method_67_code 34 = .ok (.iload_n 1, 1) := F_MD_moves_0.2.2.2.2.2.2.2.2.2.2.2.2.2.2.2.2.2.2.2.2.2.2.1
theorem d_MD_moves_35 : decode prog_12_method_67_code 35 = .ok (.iload_n 3, 1) := F_MD_moves_0.2.2.2.2.2.2.2.2.2.2.2.2.2.2.2.2.2.2.2.2.2.2.2.1
theorem d_MD_moves_36 : decode prog_12_method_67_code 36 = .ok (.invokevirtual 298, 3) := F_MD_moves_0.2.2.2.2.2.2.2.2.2.2.2.2.2.2.2.2.2.2.2.2.2.2.2.2.1
theorem d_MD_moves_39 : decode prog_12_method_67_code 39 = .ok (.iconst 0, 1) := F_MD_moves_0.2.2.2.2.2.2.2.2.2.2.2.2.2.2.2.2.2.2.2.2.2.2.2.2.2.1
theorem d_MD_moves_40 : decode prog_12_method_67_code 40 = .ok (.istore 4, 2) := F_MD_moves_0.2.2.2.2.2.2.2.2.2.2.2.2.2.2.2.2.2.2.2.2.2.2.2.2.2.2.1
theorem d_MD_moves_42 : decode prog_12_method_67_code 42 = .ok (.iload 4, 2) := F_MD_moves_0.2.2.2.2.2.2.2.2.2.2.2.2.2.2.2.2.2.2.2.2.2.2.2.2.2.2.2.1
theorem d_MD_moves_44 : decode prog_12_method_67_code 44 = .ok (.iconst 3, 1) := F_MD_moves_0.2.2.2.2.2.2.2.2.2.2.2.2.2.2.2.2.2.2.2.2.2.2.2.2.2.2.2.2.1
theorem d_MD_moves_45 : decode prog_12_method_67_code 45 = .ok (.if_icmp .ge (29), 3) := F_MD_moves_0.2.2.2.2.2.2.2.2.2.2.2.2.2.2.2.2.2.2.2.2.2.2.2.2.2.2.2.2.2.1
theorem d_MD_moves_48 : decode prog_12_method_67_code 48 = .ok (.aload_n 0, 1) := F_MD_moves_0.2.2.2.2.2.2.2.2.2.2.2.2.2.2.2.2.2.2.2.2.2.2.2.2.2.2.2.2.2.2.1
theorem d_MD_moves_49 : decode prog_12_method_67_code 49 = .ok (.getfield 50, 3) := F_MD_moves_0.2.2.2.2.2.2.2.2.2.2.2.2.2.2.2.2.2.2.2.2.2.2.2.2.2.2.2.2.2.2.2.1
theorem F_MD_moves_52 : Jvm.Free.DS.Facts prog_12_method_67_code 52 [(.iload 4, 2), (.laload, 1), (.invokestatic 210, 3), (.ldc2_w 301, 3), (.lcmp, 1), (.ifCond .le (6), 3), (.bipush (-2), 2), (.ireturn, 1), (.iinc 4 (1), 3), (.goto (-29), 3), (.iload_n 2, 1), (.aload_n 0, 1), (.getfield 50, 3), (.iconst 2, 1), (.laload, 1), (.lconst 0, 1), (.lcmp, 1), (.ifCond .ne (7), 3), (.iconst 1, 1), (.goto (4), 3), (.iconst 0, 1), (.iadd, 1), (.istore_n 2, 1), (.iinc 3 (1), 3), (.goto (-77), 3), (.aload_n 0, 1), (.invokevirtual 268, 3), (.iconst 0, 1), (.istore_n 3, 1), (.iload_n 3, 1), (.i2l, 1), (.aload_n 0, 1)] := Jvm.Free.DS.facts 52 _ (by decide +kernel) (by decide +kernel)
theorem d_MD_moves_52 : decode prog_12_method_67_code 52 = .ok (.iload 4, 2) := F_MD_moves_52.1
theorem d_MD_moves_54 : decode prog_12_method_67_code 54 = .ok (.laload, 1) := F_MD_moves_52.2.1
theorem d_MD_moves_55 : decode prog_12_method_67_code 55 = .ok (.invokestatic 210, 3) := F_MD_moves_52.2.2.1
theorem d_MD_moves_58 : decode prog_12_method_67_code 58 = .ok (.ldc2_w 301, 3) := F_MD_moves_52.2.2.2.1
theorem d_MD_moves_61 : decode prog_12_method_67_code 61 = .ok (.lcmp, 1) := F_MD_moves_52.2.2.2.2.1
theorem d_MD_moves_62 : decode prog_12_method_67_code 62 = .ok (.ifCond .le (6), 3) := F_MD_moves_52.2.2.2.2.2.1
theorem d_MD_moves_65 : decode prog_12_method_67_code 65 = .ok (.bipush (-2), 2) := F_MD_moves_52.2.2.2.2.2.2.1
theorem d_MD_moves_67 : decode prog_12_method_67_code 67 = .ok (.ireturn, 1) := F_MD_moves_52.2.2.2.2.2.2.2.1
theorem d_MD_moves_68 : decode prog_12_method_67_code 68 = .ok (.iinc 4 (1), 3) := F_MD_moves_52.2.2.2.2.2.2.2.2.1
theorem d_MD_moves_71 : decode prog_12_method_67_code 71 = .ok (.goto (-29), 3) := F_MD_moves_52.2.2.2.2.2.2.2.2.2.1
theorem d_MD_moves_74 : decode prog_12_method_67_code 74 = .ok (.iload_n 2, 1) := F_MD_moves_52.2.2.2.2.2.2.2.2.2.2.1
theorem d_MD_moves_75 : decode prog_12_method_67_code 75 = .ok (.aload_n 0, 1) := F_MD_moves_52.2.2.2.2.2.2.2.2.2.2.2.1
theorem d_MD_moves_76 : decode prog_12_method_67_code 76 = .ok (.getfield 50, 3) := F_MD_moves_52.2.2.2.2.2.2.2.2.2.2.2.2.1
theorem d_MD_moves_79 : decode prog_12_method_67_code 79 = .ok (.iconst 2, 1) := F_MD_moves_52.2.2.2.2.2.2.2.2.2.2.2.2.2.1
theorem d_MD_moves_80 : decode prog_12_method_67_code 80 = .ok (.laload, 1) := F_MD_moves_52.2.2.2.2.2.2.2.2.2.2.2.2.2.2.1
theorem d_MD_moves_81 : decode prog_12_method_67_code 81 = .ok (.lconst 0, 1) := F_MD_moves_52.2.2.2.2.2.2.2.2.2.2.2.2.2.2.2.1
theorem d_MD_moves_82 : decode prog_12_method_67_code 82 = .ok (.lcmp, 1) := F_MD_moves_52.2.2.2.2.2.2.2.2.2.2.2.2.2.2.2.2.1
theorem d_MD_moves_83 : decode prog_12_method_67_code 83 = .ok (.ifCond .ne (7), 3) := F_MD_moves_52.2.2.2.2.2.2.2.2.2.2.2.2.2.2.2.2.2.1
theorem d_MD_moves_86 : decode prog_12_method_67_code 86 = .ok (.iconst 1, 1) := F_MD_moves_52.2.2.2.2.2.2.2.2.2.2.2.2.2.2.2.2.2.2.1
theorem d_MD_moves_87 : decode prog_12_method_67_code 87 = .ok (.goto (4), 3) := F_MD_moves_52.2.2.2.2.2.2.2.2.2.2.2.2.2.2.2.2.2.2.2.1
theorem d_MD_moves_90 : decode prog_12_method_67_code 90 = .ok (.iconst 0, 1) := F_MD_moves_52.2.2.2.2.2.2.2.2.2.2.2.2.2.2.2.2.2.2.2.2.1
theorem d_MD_moves_91 : decode prog_12_method_67_code 91 = .ok (.iadd, 1) := F_MD_moves_52.2.2.2.2.2.2.2.2.2.2.2.2.2.2.2.2.2.2.2.2.2.1
theorem d_MD_moves_92 : decode prog_12_method_67_code 92 = .ok (.istore_n 2, 1) := F_MD_moves_52.2.2.2.2.2.2.2.2.2.2.2.2.2.2.2.2.2.2.2.2.2.2.1
theorem d_MD_moves_93 : decode prog_12_method_67_code 93 = .ok (.iinc 3 (1), 3) := F_MD_moves_52.2.2.2.2.2.2.2.2.2.2.2.2.2.2.2.2.2.2.2.2.2.2.2.1
theorem d_MD_moves_96 : decode prog_12_method_67_code 96 = .ok (.goto (-77), 3) := F_MD_moves_52.2.2.2.2.2.2.2.2.2.2.2.2.2.2.2.2.2.2.2.2.2.2.2.2.1
theorem d_MD_moves_99 : decode prog_12_method_67_code 99 = .ok (.aload_n 0, 1) := F_MD_moves_52.2.2.2.2.2.2.2.2.2.2.2.2.2.2.2.2.2.2.2.2.2.2.2.2.2.1
theorem d_MD_moves_100 : decode prog_12_method_67_code 100 = .ok (.invokevirtual 268, 3) := F_MD_moves_52.2.2.2.2.2.2.2.2.2.2.2.2.2.2.2.2.2.2.2.2.2.2.2.2.2.2.1
theorem d_MD_moves_103 : decode prog_12_method_67_code 103 = .ok (.iconst 0, 1) := F_MD_moves_52.2.2.2.2.2.2.2.2.2.2.2.2.2.2.2.2.2.2.2.2.2.2.2.2.2.2.2.1
theorem d_MD_moves_104 : decode prog_12_method_67_code 104 = .ok (.istore_n 3, 1) := F_MD_moves_52.2.2.2.2.2.2.2.2.2.2.2.2.2.2.2.2.2.2.2.2.2.2.2.2.2.2.2.2.1
theorem d_MD_moves_105 : decode prog_12_method_67_code 105 = .ok (.iload_n 3, 1) := F_MD_moves_52.2.2.2.2.2.2.2.2.2.2.2.2.2.2.2.2.2.2.2.2.2.2.2.2.2.2.2.2.2.1
theorem d_MD_moves_106 : decode prog_12_method_67_code 106 = .ok (.i2l, 1) := F_MD_moves_52.2.2.2.2.2.2.2.2.2.2.2.2.2.2.2.2.2.2.2.2.2.2.2.2.2.2.2.2.2.2.1
theorem d_MD_moves_107 : decode prog_12_method_67_code 107 = .ok (.aload_n 0, 1) := F_MD_moves_52.2.2.2.2.2.2.2.2.2.2.2.2.2.2.2.2.2.2.2.2.2.2.2.2.2.2.2.2.2.2.2.1
theorem F_MD_moves_108 : Jvm.Free.DS.Facts prog_12_method_67_code 108 [(.getfield 21, 3), (.sipush (169), 3), (.laload, 1), (.lcmp, 1), (.ifCond .ge (24), 3), (.aload_n 0, 1), (.iload_n 1, 1), (.iload_n 3, 1), (.invokevirtual 298, 3), (.aload_n 0, 1), (.aload_n 0, 1), (.getfield 21, 3), (.iload_n 3, 1), (.invokevirtual 183, 3), (.iinc 3 (1), 3), (.goto (-32), 3), (.iload_n 2, 1), (.ireturn, 1)] := Jvm.Free.DS.facts 108 _ (by decide +kernel) (by decide +kernel)
theorem d_MD_moves_108 : decode prog_12_method_67_code 108 = .ok (.getfield 21, 3) := F_MD_moves_108.1
theorem d_MD_moves_111 : decode prog_12_method_67_code 111 = .ok (.sipush (169), 3) := F_MD_moves_108.2.1
theorem d_MD_moves_114 : decode prog_12_method_67_code 114 = .ok (.laload, 1) := F_MD_moves_108.2.2.1
theorem d_MD_moves_115 : decode prog_12_method_67_code 115 = .ok (.lcmp, 1) := F_MD_moves_108.2.2.2.1
theorem d_MD_moves_116 : decode prog_12_method_67_code 116 = .ok (.ifCond .ge (24), 3) := F_MD_moves_108.2.2.2.2.1
theorem d_MD_moves_119 : decode prog_12_method_67_code 119 = .ok (.aload_n 0, 1) := F_MD_moves_108.2.2.2.2.2.1
theorem d_MD_moves_120 : decode prog_12_method_67_code 120 = .ok (.iload_n 1, 1) := F_MD_moves_108.2.2.2.2.2.2.1
theorem d_MD_moves_121 : decode prog_12_method_67_code 121 = .ok (.iload_n 3, 1) := F_MD_moves_108.2.2.2.2.2.2.2.1
theorem d_MD_moves_122 : decode prog_12_method_67_code 122 = .ok (.invokevirtual 298, 3) := F_MD_moves_108.2.2.2.2.2.2.2.2.1
theorem d_MD_moves_125 : decode prog_12_method_67_code 125 = .ok (.aload_n 0, 1) := F_MD_moves_108.2.2.2.2.2.2.2.2.2.1
theorem d_MD_moves_126 : decode prog_12_method_67_code 126 = .ok (.aload_n 0, 1) := F_MD_moves_108.2.2.2.2.2.2.2.2.2.2.1
theorem d_MD_moves_127 : decode prog_12_method_67_code 127 = .ok (.getfield 21, 3) := F_MD_moves_108.2.2.2.2.2.2.2.2.2.2.2.1
theorem d_MD_moves_130 : decode prog_12_method_67_code 130 = .ok (.iload_n 3, 1) := F_MD_moves_108.2.2.2.2.2.2.2.2.2.2.2.2.1
theorem d_MD_moves_131 : decode prog_12_method_67_code 131 = .ok (.invokevirtual 183, 3) := F_MD_moves_108.2.2.2.2.2.2.2.2.2.2.2.2.2.1
theorem d_MD_moves_134 : decode prog_12_method_67_code 134 = .ok (.iinc 3 (1), 3) := F_MD_moves_108.2.2.2.2.2.2.2.2.2.2.2.2.2.2.1
theorem d_MD_moves_137 : decode prog_12_method_67_code 137 = .ok (.goto (-32), 3) := F_MD_moves_108.2.2.2.2.2.2.2.2.2.2.2.2.2.2.2.1
theorem d_MD_moves_140 : decode prog_12_method_67_code 140 = .ok (.iload_n 2, 1) := F_MD_moves_108.2.2.2.2.2.2.2.2.2.2.2.2.2.2.2.2.1
theorem d_MD_moves_141 : decode prog_12_method_67_code 141 = .ok (.ireturn, 1) := F_MD_moves_108.2.2.2.2.2.2.2.2.2.2.2.2.2.2.2.2.2.1
theorem F_MD_imageOf_0 : Jvm.Free.DS.Facts prog_12_method_66_code 0 [(.aload_n 0, 1), (.aload_n 0, 1), (.getfield 44, 3), (.iload_n 1, 1), (.invokevirtual 274, 3), (.aload_n 0, 1), (.aload_n 0, 1), (.getfield 44, 3), (.aload_n 0, 1), (.iload_n 2, 1), (.iconst 0, 1), (.invokevirtual 250, 3), (.aload_n 0, 1), (.iload_n 2, 1), (.iconst 1, 1), (.invokevirtual 250, 3), (.aload_n 0, 1), (.iload_n 2, 1), (.iconst 2, 1), (.invokevirtual 250, 3), (.invokevirtual 294, 3), (.return_, 1)] := Jvm.Free.DS.facts 0 _ (by decide +kernel) (by decide +kernel)
theorem d_MD_imageOf_0 : decode prog_12_method_66_code 0 = .ok (.aload_n 0, 1) := F_MD_imageOf_0.1
theorem d_MD_imageOf_1 : decode prog_12_method_66_code 1 = .ok (.aload_n 0, 1) := F_MD_imageOf_0.2.1
theorem d_MD_imageOf_2 : decode prog_12_method_66_code 2 = .ok (.getfield 44, 3) := F_MD_imageOf_0.2.2.1
theorem d_MD_imageOf_5 : decode prog_12_method_66_code 5 = .ok (.iload_n 1, 1) := F_MD_imageOf_0.2.2.2.1
theorem d_MD_imageOf_6 : decode prog_12_method_66_code 6 = .ok (.invokevirtual 274, 3) := F_MD_imageOf_0.2.2.2.2.1
theorem d_MD_imageOf_9 : decode prog_12_method_66_code 9 = .ok (.aload_n 0, 1) := F_MD_imageOf_0.2.2.2.2.2.1
theorem d_MD_imageOf_10 : decode prog_12_method_66_code 10 = .ok (.aload_n 0, 1) := F_MD_imageOf_0.2.2.2.2.2.2.1
theorem d_MD_imageOf_11 : decode prog_12_method_66_code 11 = .ok (.getfield 44, 3) := F_MD_imageOf_0.2.2.2.2.2.2.2.1
theorem d_MD_imageOf_14 : decode prog_12_method_66_code 14 = .ok (.aload_n 0, 1) := F_MD_imageOf_0.2.2.2.2.2.2.2.2.1
theorem d_MD_imageOf_15 : decode prog_12_method_66_code 15 = .ok (.iload_n 2, 1) := F_MD_imageOf_0.2.2.2.2.2.2.2.2.2.1
theorem d_MD_imageOf_16 : decode prog_12_method_66_code 16 = .ok (.iconst 0, 1) := F_MD_imageOf_0.2.2.2.2.2.2.2.2.2.2.1
theorem d_MD_imageOf_17 : decode prog_12_method_66_code 17 = .ok (.invokevirtual 250, 3) := F_MD_imageOf_0.2.2.2.2.2.2.2.2.2.2.2.1
theorem d_MD_imageOf_20 : decode prog_12_method_66_code 20 = .ok (.aload_n 0, 1) := F_MD_imageOf_0.2.2.2.2.2.2.2.2.2.2.2.2.1
theorem d_MD_imageOf_21 : decode prog_12_method_66_code 21 = .ok (.iload_n 2, 1) := F_MD_imageOf_0.2.2.2.2.2.2.2.2.2.2.2.2.2.1
theorem d_MD_imageOf_22 : decode prog_12_method_66_code 22 = .ok (.iconst 1, 1) := F_MD_imageOf_0.2.2.2.2.2.2.2.2.2.2.2.2.2.2.1
theorem d_MD_imageOf_23 : decode prog_12_method_66_code 23 = .ok (.invokevirtual 250, 3) := F_MD_imageOf_0.2.2.2.2.2.2.2.2.2.2.2.2.2.2.2.1
theorem d_MD_imageOf_26 : decode prog_12_method_66_code 26 = .ok (.aload_n 0, 1) := F_MD_imageOf_0.2.2.2.2.2.2.2.2.2.2.2.2.2.2.2.2.1
theorem d_MD_imageOf_27 : decode prog_12_method_66_code 27 = .ok (.iload_n 2, 1) := F_MD_imageOf_0.2.2.2.2.2.2.2.2.2.2.2.2.2.2.2.2.2.1
theorem d_MD_imageOf_28 : decode prog_12_method_66_code 28 = .ok (.iconst 2, 1) := F_MD_imageOf_0.2.2.2.2.2.2.2.2.2.2.2.2.2.2.2.2.2.2.1
theorem d_MD_imageOf_29 : decode prog_12_method_66_code 29 = .ok (.invokevirtual 250, 3) := F_MD_imageOf_0.2.2.2.2.2.2.2.2.2.2.2.2.2.2.2.2.2.2.2.1
theorem d_MD_imageOf_32 : decode prog_12_method_66_code 32 = .ok (.invokevirtual 294, 3) := F_MD_imageOf_0.2.2.2.2.2.2.2.2.2.2.2.2.2.2.2.2.2.2.2.2.1
theorem d_MD_imageOf_35 : decode prog_12_method_66_code 35 = .ok (.return_, 1) := F_MD_imageOf_0.2.2.2.2.2.2.2.2.2.2.2.2.2.2.2.2.2.2.2.2.2.1
theorem F_MD_images_0 : Jvm.Free.DS.Facts prog_12_method_65_code 0 [(.aload_n 0, 1), (.aload_n 1, 1), (.iconst 0, 1), (.laload, 1), (.lload_n 2, 1), (.lmul, 1), (.aload_n 1, 1), (.iconst 1, 1), (.laload, 1), (.lload 4, 2), (.lmul, 1), (.ladd, 1), (.aload_n 1, 1), (.iconst 2, 1), (.laload, 1), (.lload 6, 2), (.lmul, 1), (.ladd, 1), (.aload_n 1, 1), (.iconst 3, 1), (.laload, 1), (.lload_n 2, 1), (.lmul, 1), (.aload_n 1, 1), (.iconst 4, 1), (.laload, 1), (.lload 4, 2), (.lmul, 1), (.ladd, 1), (.aload_n 1, 1), (.iconst 5, 1), (.laload, 1)] := Jvm.Free.DS.facts 0 _ (by decide +kernel) (by decide +kernel)
theorem d_MD_images_0 : decode prog_12_method_65_code 0 = .ok (.aload_n 0, 1) := F_MD_images_0.1
theorem d_MD_images_1 : decode prog_12_method_65_code 1 = .ok (.aload_n 1, 1) := F_MD_images_0.2.1
theorem d_MD_images_2 : decode prog_12_method_65_code 2 = .ok (.iconst 0, 1) := F_MD_images_0.2.2.1
theorem d_MD_images_3 : decode prog_12_method_65_code 3 = .ok (.laload, 1) := F_MD_images_0.2.2.2.1
theorem d_MD_images_4 : decode prog_12_method_65_code 4 = .ok (.lload_n 2, 1) := F_MD_images_0.2.2.2.2.1
theorem d_MD_images_5 : decode prog_12_method_65_code 5 = .ok (.lmul, 1) := F_MD_images_0.2.2.2.2.2.1
theorem d_MD_images_6 : decode prog_12_method_65_code 6 = .ok (.aload_n 1, 1) := F_MD_images_0.2.2.2.2.2.2.1
theorem d_MD_images_7 : decode prog_12_method_65_code 7 = .ok (.iconst 1, 1) := F_MD_images_0.2.2.2.2.2.2.2.1
theorem d_MD_images_8 : decode prog_12_method_65_code 8 = .ok (.laload, 1) := F_MD_images_0.2.2.2.2.2.2.2.2.1
theorem d_MD_images_9 : decode prog_12_method_65_code 9 = .ok (.lload 4, 2) := F_MD_images_0.2.2.2.2.2.2.2.2.2.1
theorem d_MD_images_11 : decode prog_12_method_65_code 11 = .ok (.lmul, 1) := F_MD_images_0.2.2.2.2.2.2.2.2.2.2.1
theorem d_MD_images_12 : decode prog_12_method_65_code 12 = .ok (.ladd, 1) := F_MD_images_0.2.2.2.2.2.2.2.2.2.2.2.1
theorem d_MD_images_13 : decode prog_12_method_65_code 13 = .ok (.aload_n 1, 1) := F_MD_images_0.2.2.2.2.2.2.2.2.2.2.2.2.1
theorem d_MD_images_14 : decode prog_12_method_65_code 14 = .ok (.iconst 2, 1) := F_MD_images_0.2.2.2.2.2.2.2.2.2.2.2.2.2.1
theorem d_MD_images_15 : decode prog_12_method_65_code 15 = .ok (.laload, 1) := F_MD_images_0.2.2.2.2.2.2.2.2.2.2.2.2.2.2.1
theorem d_MD_images_16 : decode prog_12_method_65_code 16 = .ok (.lload 6, 2) := F_MD_images_0.2.2.2.2.2.2.2.2.2.2.2.2.2.2.2.1
theorem d_MD_images_18 : decode prog_12_method_65_code 18 = .ok (.lmul, 1) := F_MD_images_0.2.2.2.2.2.2.2.2.2.2.2.2.2.2.2.2.1
theorem d_MD_images_19 : decode prog_12_method_65_code 19 = .ok (.ladd, 1) := F_MD_images_0.2.2.2.2.2.2.2.2.2.2.2.2.2.2.2.2.2.1
theorem d_MD_images_20 : decode prog_12_method_65_code 20 = .ok (.aload_n 1, 1) := F_MD_images_0.2.2.2.2.2.2.2.2.2.2.2.2.2.2.2.2.2.2.1
theorem d_MD_images_21 : decode prog_12_method_65_code 21 = .ok (.iconst 3, 1) := F_MD_images_0.2.2.2.2.2.2.2.2.2.2.2.2.2.2.2.2.2.2.2.1
theorem d_MD_images_22 : decode prog_12_method_65_code 22 = .ok (.laload, 1) := F_MD_images_0.2.2.2.2.2.2.2.2.2.2.2.2.2.2.2.2.2.2.2.2.1
theorem d_MD_images_23 : decode prog_12_method_65_code 23 = .ok (.lload_n 2, 1) := F_MD_images_0.2.2.2.2.2.2.2.2.2.2.2.2.2.2.2.2.2.2.2.2.2.1
theorem d_MD_images_24 : decode prog_12_method_65_code 24 = .ok (.lmul, 1) := F_MD_images_0.2.2.2.2.2.2.2.2.2.2.2.2.2.2.2.2.2.2.2.2.2.2.1
theorem d_MD_images_25 : decode prog_12_method_65_code 25 = .ok (.aload_n 1, 1) := F_MD_images_0.2.2.2.2.2.2.2.2.2.2.2.2.2.2.2.2.2.2.2.2.2.2.2.1
theorem d_MD_images_26 : decode prog_12_method_65_code 26 = .ok (.iconst 4, 1) := F_MD_images_0.2.2.2.2.2.2.2.2.2.2.2.2.2.2.2.2.2.2.2.2.2.2.2.2.1
theorem d_MD_images_27 : decode prog_12_method_65_code 27 = .ok (.laload, 1) := F_MD_images_0.2.2.2.2.2.2.2.2.2.2.2.2.2.2.2.2.2.2.2.2.2.2.2.2.2.1
theorem d_MD_images_28 : decode prog_12_method_65_code 28 = .ok (.lload 4, 2) := F_MD_images_0.2.2.2.2.2.2.2.2.2.2.2.2.2.2.2.2.2.2.2.2.2.2.2.2.2.2.1
theorem d_MD_images_30 : decode prog_12_method_65_code 30 = .ok (.lmul, 1) := F_MD_images_0.2.2.2.2.2.2.2.2.2.2.2.2.2.2.2.2.2.2.2.2.2.2.2.2.2.2.2.1
theorem d_MD_images_31 : decode prog_12_method_65_code 31 = .ok (.ladd, 1) := F_MD_images_0.2.2.2.2.2.2.2.2.2.2.2.2.2.2.2.2.2.2.2.2.2.2.2.2.2.2.2.2.1
theorem d_MD_images_32 : decode prog_12_method_65_code 32 = .ok (.aload_n 1, 1) := F_MD_images_0.2.2.2.2.2.2.2.2.2.2.2.2.2.2.2.2.2.2.2.2.2.2.2.2.2.2.2.2.2.1
theorem d_MD_images_33 : decode prog_12_method_65_code 33 = .ok (.iconst 5, 1) := F_MD_images_0.2.2.2.2.2.2.2.2.2.2.2.2.2.2.2.2.2.2.2.2.2.2.2.2.2.2.2.2.2.2.1
theorem d_MD_images_34 : decode prog_12_method_65_code 34 = .ok (.laload, 1) := F_MD_images_0.2.2.2.2.2.2.2.2.2.2.2.2.2.2.2.2.2.2.2.2.2.2.2.2.2.2.2.2.2.2.2.1
theorem F_MD_images_35 : Jvm.Free.DS.Facts prog_12_method_65_code 35 [(.lload 6, 2), (.lmul, 1), (.ladd, 1), (.aload_n 1, 1), (.bipush (6), 2), (.laload, 1), (.lload_n 2, 1), (.lmul, 1), (.aload_n 1, 1), (.bipush (7), 2), (.laload, 1), (.lload 4, 2), (.lmul, 1), (.ladd, 1), (.aload_n 1, 1), (.bipush (8), 2), (.laload, 1), (.lload 6, 2), (.lmul, 1), (.ladd, 1), (.invokevirtual 179, 3), (.return_, 1)] := Jvm.Free.DS.facts 35 _ (by decide +kernel) (by decide +kernel)
theorem d_MD_images_35 : decode prog_12_method_65_code 35 = .ok (.lload 6, 2) := F_MD_images_35.1
theorem d_MD_images_37 : decode prog_12_method_65_code 37 = .ok (.lmul, 1) := F_MD_images_35.2.1
theorem d_MD_images_38 : decode prog_12_method_65_code 38 = .ok (.ladd, 1) := F_MD_images_35.2.2.1
theorem d_MD_images_39 : decode prog_12_method_65_code 39 = .ok (.aload_n 1, 1) := F_MD_images_35.2.2.2.1
theorem d_MD_images_40 : decode prog_12_method_65_code 40 = .ok (.bipush (6), 2) := F_MD_images_35.2.2.2.2.1
theorem d_MD_images_42 : decode prog_12_method_65_code 42 = .ok (.laload, 1) := F_MD_images_35.2.2.2.2.2.1
theorem d_MD_images_43 : decode prog_12_method_65_code 43 = .ok (.lload_n 2, 1) := F_MD_images_35.2.2.2.2.2.2.1
theorem d_MD_images_44 : decode prog_12_method_65_code 44 = .ok (.lmul, 1) := F_MD_images_35.2.2.2.2.2.2.2.1
theorem d_MD_images_45 : decode prog_12_method_65_code 45 = .ok (.aload_n 1, 1) := F_MD_images_35.2.2.2.2.2.2.2.2.1
theorem d_MD_images_46 : decode prog_12_method_65_code 46 = .ok (.bipush (7), 2) := F_MD_images_35.2.2.2.2.2.2.2.2.2.1
theorem d_MD_images_48 : decode prog_12_method_65_code 48 = .ok (.laload, 1) := F_MD_images_35.2.2.2.2.2.2.2.2.2.2.1
theorem d_MD_images_49 : decode prog_12_method_65_code 49 = .ok (.lload 4, 2) := F_MD_images_35.2.2.2.2.2.2.2.2.2.2.2.1
theorem d_MD_images_51 : decode prog_12_method_65_code 51 = .ok (.lmul, 1) := F_MD_images_35.2.2.2.2.2.2.2.2.2.2.2.2.1
theorem d_MD_images_52 : decode prog_12_method_65_code 52 = .ok (.ladd, 1) := F_MD_images_35.2.2.2.2.2.2.2.2.2.2.2.2.2.1
theorem d_MD_images_53 : decode prog_12_method_65_code 53 = .ok (.aload_n 1, 1) := F_MD_images_35.2.2.2.2.2.2.2.2.2.2.2.2.2.2.1
theorem d_MD_images_54 : decode prog_12_method_65_code 54 = .ok (.bipush (8), 2) := F_MD_images_35.2.2.2.2.2.2.2.2.2.2.2.2.2.2.2.1
theorem d_MD_images_56 : decode prog_12_method_65_code 56 = .ok (.laload, 1) := F_MD_images_35.2.2.2.2.2.2.2.2.2.2.2.2.2.2.2.2.1
theorem d_MD_images_57 : decode prog_12_method_65_code 57 = .ok (.lload 6, 2) := F_MD_images_35.2.2.2.2.2.2.2.2.2.2.2.2.2.2.2.2.2.1
theorem d_MD_images_59 : decode prog_12_method_65_code 59 = .ok (.lmul, 1) := F_MD_images_35.2.2.2.2.2.2.2.2.2.2.2.2.2.2.2.2.2.2.1
theorem d_MD_images_60 : decode prog_12_method_65_code 60 = .ok (.ladd, 1) := F_MD_images_35.2.2.2.2.2.2.2.2.2.2.2.2.2.2.2.2.2.2.2.1
theorem d_MD_images_61 : decode prog_12_method_65_code 61 = .ok (.invokevirtual 179, 3) := F_MD_images_35.2.2.2.2.2.2.2.2.2.2.2.2.2.2.2.2.2.2.2.2.1
theorem d_MD_images_64 : decode prog_12_method_65_code 64 = .ok (.return_, 1) := F_MD_images_35.2.2.2.2.2.2.2.2.2.2.2.2.2.2.2.2.2.2.2.2.2.1
theorem F_MD_image_0 : Jvm.Free.DS.Facts prog_12_method_69_code 0 [(.aload_n 0, 1), (.iconst 0, 1), (.putfield 74, 3), (.aload_n 0, 1), (.iload_n 1, 1), (.invokevirtual 241, 3), (.ifCond .eq (21), 3), (.iload_n 2, 1), (.iload_n 3, 1), (.iload 4, 2), (.invokestatic 303, 3), (.ifCond .eq (11), 3), (.iload 5, 2), (.invokestatic 244, 3), (.ifCond .ne (7), 3), (.ldc2_w 307, 3), (.lreturn, 1), (.aload_n 0, 1), (.aload_n 0, 1), (.getfield 44, 3), (.iload_n 1, 1), (.invokevirtual 274, 3), (.aload_n 0, 1), (.aload_n 0, 1), (.getfield 44, 3), (.iload_n 2, 1), (.i2l, 1), (.iload_n 3, 1), (.i2l, 1), (.iload 4, 2), (.i2l, 1), (.invokevirtual 294, 3)] := Jvm.Free.DS.facts 0 _ (by decide +kernel) (by decide +kernel)
theorem d_MD_image_0 : decode prog_12_method_69_code 0 = .ok (.aload_n 0, 1) := F_MD_image_0.1
theorem d_MD_image_1 : decode prog_12_method_69_code 1 = .ok (.iconst 0, 1) := F_MD_image_0.2.1
theorem d_MD_image_2 : decode prog_12_method_69_code 2 = .ok (.putfield 74, 3) := F_MD_image_0.2.2.1
theorem d_MD_image_5 : decode prog_12_method_69_code 5 = .ok (.aload_n 0, 1) := F_MD_image_0.2.2.2.1
theorem d_MD_image_6 : decode prog_12_method_69_code 6 = .ok (.iload_n 1, 1) := F_MD_image_0.2.2.2.2.1
theorem d_MD_image_7 : decode prog_12_method_69_code 7 = .ok (.invokevirtual 241, 3) := F_MD_image_0.2.2.2.2.2.1
theorem d_MD_image_10 : decode prog_12_method_69_code 10 = .ok (.ifCond .eq (21), 3) := F_MD_image_0.2.2.2.2.2.2.1
theorem d_MD_image_13 : decode prog_12_method_69_code 13 = .ok (.iload_n 2, 1) := F_MD_image_0.2.2.2.2.2.2.2.1
theorem d_MD_image_14 : decode prog_12_method_69_code 14 = .ok (.iload_n 3, 1) := F_MD_image_0.2.2.2.2.2.2.2.2.1
theorem d_MD_image_15 : decode prog_12_method_69_code 15 = .ok (.iload 4, 2) := F_MD_image_0.2.2.2.2.2.2.2.2.2.1
theorem d_MD_image_17 : decode prog_12_method_69_code 17 = .ok (.invokestatic 303, 3) := F_MD_image_0.2.2.2.2.2.2.2.2.2.2.1
theorem d_MD_image_20 : decode prog_12_method_69_code 20 = .ok (.ifCond .eq (11), 3) := F_MD_image_0.2.2.2.2.2.2.2.2.2.2.2.1
theorem d_MD_image_23 : decode prog_12_method_69_code 23 = .ok (.iload 5, 2) := F_MD_image_0.2.2.2.2.2.2.2.2.2.2.2.2.1
theorem d_MD_image_25 : decode prog_12_method_69_code 25 = .ok (.invokestatic 244, 3) := F_MD_image_0.2.2.2.2.2.2.2.2.2.2.2.2.2.1
theorem d_MD_image_28 : decode prog_12_method_69_code 28 = .ok (.ifCond .ne (7), 3) := F_MD_image_0.2.2.2.2.2.2.2.2.2.2.2.2.2.2.1
theorem d_MD_image_31 : decode prog_12_method_69_code 31 = .ok (.ldc2_w 307, 3) := F_MD_image_0.2.2.2.2.2.2.2.2.2.2.2.2.2.2.2.1
theorem d_MD_image_34 : decode prog_12_method_69_code 34 = .ok (.lreturn, 1) := F_MD_image_0.2.2.2.2.2.2.2.2.2.2.2.2.2.2.2.2.1
theorem d_MD_image_35 : decode prog_12_method_69_code 35 = .ok (.aload_n 0, 1) := F_MD_image_0.2.2.2.2.2.2.2.2.2.2.2.2.2.2.2.2.2.1
theorem d_MD_image_36 : decode prog_12_method_69_code 36 = .ok (.aload_n 0, 1) := F_MD_image_0.2.2.2.2.2.2.2.2.2.2.2.2.2.2.2.2.2.2.1
theorem d_MD_image_37 : decode prog_12_method_69_code 37 = .ok (.getfield 44, 3) := F_MD_image_0.2.2.2.2.2.2.2.2.2.2.2.2.2.2.2.2.2.2.2.1
theorem d_MD_image_40 : decode prog_12_method_69_code 40 = .ok (.iload_n 1, 1) := F_MD_image_0.2.2.2.2.2.2.2.2.2.2.2.2.2.2.2.2.2.2.2.2.1
theorem d_MD_image_41 : decode prog_12_method_69_code 41 = .ok (.invokevirtual 274, 3) := F_MD_image_0.2.2.2.2.2.2.2.2.2.2.2.2.2.2.2.2.2.2.2.2.2.1
theorem d_MD_image_44 : decode prog_12_method_69_code 44 = .ok (.aload_n 0, 1) := F_MD_image_0.2.2.2.2.2.2.2.2.2.2.2.2.2.2.2.2.2.2.2.2.2.2.1
theorem d_MD_image_45 : decode prog_12_method_69_code 45 = .ok (.aload_n 0, 1) := F_MD_image_0.2.2.2.2.2.2.2.2.2.2.2.2.2.2.2.2.2.2.2.2.2.2.2.1
theorem d_MD_image_46 : decode prog_12_method_69_code 46 = .ok (.getfield 44, 3) := F_MD_image_0.2.2.2.2.2.2.2.2.2.2.2.2.2.2.2.2.2.2.2.2.2.2.2.2.1
theorem d_MD_image_49 : decode prog_12_method_69_code 49 = .ok (.iload_n 2, 1) := F_MD_image_0.2.2.2.2.2.2.2.2.2.2.2.2.2.2.2.2.2.2.2.2.2.2.2.2.2.1
theorem d_MD_image_50 : decode prog_12_method_69_code 50 = .ok (.i2l, 1) := F_MD_image_0.2.2.2.2.2.2.2.2.2.2.2.2.2.2.2.2.2.2.2.2.2.2.2.2.2.2.1
theorem d_MD_image_51 : decode prog_12_method_69_code 51 = .ok (.iload_n 3, 1) := F_MD_image_0.2.2.2.2.2.2.2.2.2.2.2.2.2.2.2.2.2.2.2.2.2.2.2.2.2.2.2.1
theorem d_MD_image_52 : decode prog_12_method_69_code 52 = .ok (.i2l, 1) := F_MD_image_0.2.2.2.2.2.2.2.2.2.2.2.2.2.2.2.2.2.2.2.2.2.2.2.2.2.2.2.2.1
theorem d_MD_image_53 : decode prog_12_method_69_code 53 = .ok (.iload 4, 2) := F_MD_image_0.2.2.2.2.2.2.2.2.2.2.2.2.2.2.2.2.2.2.2.2.2.2.2.2.2.2.2.2.2.1
theorem d_MD_image_55 : decode prog_12_method_69_code 55 = .ok (.i2l, 1) := F_MD_image_0.2.2.2.2.2.2.2.2.2.2.2.2.2.2.2.2.2.2.2.2.2.2.2.2.2.2.2.2.2.2.1
theorem d_MD_image_56 : decode prog_12_method_69_code 56 = .ok (.invokevirtual 294, 3) := F_MD_image_0.2.2.2.2.2.2.2.2.2.2.2.2.2.2.2.2.2.2.2.2.2.2.2.2.2.2.2.2.2.2.2.1
theorem F_MD_image_59 : Jvm.Free.DS.Facts prog_12_method_69_code 59 [(.aload_n 0, 1), (.getfield 50, 3), (.iload 5, 2), (.laload, 1), (.lreturn, 1)] := Jvm.Free.DS.facts 59 _ (by decide +kernel) (by decide +kernel)
theorem d_MD_image_59 : decode prog_12_method_69_code 59 = .ok (.aload_n 0, 1) := F_MD_image_59.1
theorem d_MD_image_60 : decode prog_12_method_69_code 60 = .ok (.getfield 50, 3) := F_MD_image_59.2.1
theorem d_MD_image_63 : decode prog_12_method_69_code 63 = .ok (.iload 5, 2) := F_MD_image_59.2.2.1
theorem d_MD_image_65 : decode prog_12_method_69_code 65 = .ok (.laload, 1) := F_MD_image_59.2.2.2.1
theorem d_MD_image_66 : decode prog_12_method_69_code 66 = .ok (.lreturn, 1) := F_MD_image_59.2.2.2.2.1
theorem F_MD_areEdges_0 : Jvm.Free.DS.Facts prog_12_method_68_code 0 [(.iload_n 0, 1), (.invokestatic 289, 3), (.ifCond .eq (33), 3), (.iload_n 1, 1), (.invokestatic 289, 3), (.ifCond .eq (26), 3), (.iload_n 2, 1), (.invokestatic 289, 3), (.ifCond .eq (19), 3), (.iload_n 0, 1), (.ifCond .ne (11), 3), (.iload_n 1, 1), (.ifCond .ne (7), 3), (.iload_n 2, 1), (.ifCond .eq (7), 3), (.iconst 1, 1), (.goto (4), 3), (.iconst 0, 1), (.ireturn, 1)] := Jvm.Free.DS.facts 0 _ (by decide +kernel) (by decide +kernel)
theorem d_MD_areEdges_0 : decode prog_12_method_68_code 0 = .ok (.iload_n 0, 1) := F_MD_areEdges_0.1
theorem d_MD_areEdges_1 : decode prog_12_method_68_code 1 = .ok (.invokestatic 289, 3) := F_MD_areEdges_0.2.1
theorem d_MD_areEdges_4 : decode prog_12_method_68_code 4 = .ok (.ifCond .eq (33), 3) := F_MD_areEdges_0.2.2.1
theorem d_MD_areEdges_7 : decode prog_12_method_68_code 7 = .ok (.iload_n 1, 1) := F_MD_areEdges_0.2.2.2.1
theorem d_MD_areEdges_8 : decode prog_12_method_68_code 8 = .ok (.invokestatic 289, 3) := F_MD_areEdges_0.2.2.2.2.1
theorem d_MD_areEdges_11 : decode prog_12_method_68_code 11 = .ok (.ifCond .eq (26), 3) := F_MD_areEdges_0.2.2.2.2.2.1
theorem d_MD_areEdges_14 : decode prog_12_method_68_code 14 = .ok (.iload_n 2, 1) := F_MD_areEdges_0.2.2.2.2.2.2.1
theorem d_MD_areEdges_15 : decode prog_12_method_68_code 15 = .ok (.invokestatic 289, 3) := F_MD_areEdges_0.2.2.2.2.2.2.2.1
theorem d_MD_areEdges_18 : decode prog_12_method_68_code 18 = .ok (.ifCond .eq (19), 3) := F_MD_areEdges_0.2.2.2.2.2.2.2.2.1
theorem d_MD_areEdges_21 : decode prog_12_method_68_code 21 = .ok (.iload_n 0, 1) := F_MD_areEdges_0.2.2.2.2.2.2.2.2.2.1
theorem d_MD_areEdges_22 : decode prog_12_method_68_code 22 = .ok (.ifCond .ne (11), 3) := F_MD_areEdges_0.2.2.2.2.2.2.2.2.2.2.1
theorem d_MD_areEdges_25 : decode prog_12_method_68_code 25 = .ok (.iload_n 1, 1) := F_MD_areEdges_0.2.2.2.2.2.2.2.2.2.2.2.1
theorem d_MD_areEdges_26 : decode prog_12_method_68_code 26 = .ok (.ifCond .ne (7), 3) := F_MD_areEdges_0.2.2.2.2.2.2.2.2.2.2.2.2.1
theorem d_MD_areEdges_29 : decode prog_12_method_68_code 29 = .ok (.iload_n 2, 1) := F_MD_areEdges_0.2.2.2.2.2.2.2.2.2.2.2.2.2.1
theorem d_MD_areEdges_30 : decode prog_12_method_68_code 30 = .ok (.ifCond .eq (7), 3) := F_MD_areEdges_0.2.2.2.2.2.2.2.2.2.2.2.2.2.2.1
theorem d_MD_areEdges_33 : decode prog_12_method_68_code 33 = .ok (.iconst 1, 1) := F_MD_areEdges_0.2.2.2.2.2.2.2.2.2.2.2.2.2.2.2.1
theorem d_MD_areEdges_34 : decode prog_12_method_68_code 34 = .ok (.goto (4), 3) := F_MD_areEdges_0.2.2.2.2.2.2.2.2.2.2.2.2.2.2.2.2.1
theorem d_MD_areEdges_37 : decode prog_12_method_68_code 37 = .ok (.iconst 0, 1) := F_MD_areEdges_0.2.2.2.2.2.2.2.2.2.2.2.2.2.2.2.2.2.1
theorem d_MD_areEdges_38 : decode prog_12_method_68_code 38 = .ok (.ireturn, 1) := F_MD_areEdges_0.2.2.2.2.2.2.2.2.2.2.2.2.2.2.2.2.2.2.1
theorem F_MD_before_0 : Jvm.Free.DS.Facts prog_12_method_70_code 0 [(.aload_n 0, 1), (.iconst 0, 1), (.putfield 74, 3), (.aload_n 0, 1), (.iload_n 1, 1), (.invokevirtual 241, 3), (.ifCond .eq (21), 3), (.iload_n 2, 1), (.iload_n 3, 1), (.iload 4, 2), (.invokestatic 303, 3), (.ifCond .eq (11), 3), (.iload 5, 2), (.invokestatic 244, 3), (.ifCond .ne (7), 3), (.ldc2_w 307, 3), (.lreturn, 1), (.aload_n 0, 1), (.iload_n 1, 1), (.invokevirtual 280, 3), (.aload_n 0, 1), (.invokevirtual 172, 3), (.ifCond .eq (7), 3), (.ldc2_w 309, 3), (.lreturn, 1), (.aload_n 0, 1), (.aload_n 0, 1), (.getfield 41, 3), (.iload_n 2, 1), (.i2l, 1), (.iload_n 3, 1), (.i2l, 1)] := Jvm.Free.DS.facts 0 _ (by decide +kernel) (by decide +kernel)
theorem d_MD_before_0 : decode prog_12_method_70_code 0 = .ok (.aload_n 0, 1) := F_MD_before_0.1
theorem d_MD_before_1 : decode prog_12_method_70_code 1 = .ok (.iconst 0, 1) := F_MD_before_0.2.1
theorem d_MD_before_2 : decode prog_12_method_70_code 2 = .ok (.putfield 74, 3) := F_MD_before_0.2.2.1
theorem d_MD_before_5 : decode prog_12_method_70_code 5 = .ok (.aload_n 0, 1) := F_MD_before_0.2.2.2.1
theorem d_MD_before_6 : decode prog_12_method_70_code 6 = .ok (.iload_n 1, 1) := F_MD_before_0.2.2.2.2.1
theorem d_MD_before_7 : decode prog_12_method_70_code 7 = .ok (.invokevirtual 241, 3) := F_MD_before_0.2.2.2.2.2.1
theorem d_MD_before_10 : decode prog_12_method_70_code 10 = .ok (.ifCond .eq (21), 3) := F_MD_before_0.2.2.2.2.2.2.1
theorem d_MD_before_13 : decode prog_12_method_70_code 13 = .ok (.iload_n 2, 1) := F_MD_before_0.2.2.2.2.2.2.2.1
theorem d_MD_before_14 : decode prog_12_method_70_code 14 = .ok (.iload_n 3, 1) := F_MD_before_0.2.2.2.2.2.2.2.2.1
theorem d_MD_before_15 : decode prog_12_method_70_code 15 = .ok (.iload 4, 2) := F_MD_before_0.2.2.2.2.2.2.2.2.2.1
theorem d_MD_before_17 : decode prog_12_method_70_code 17 = .ok (.invokestatic 303, 3) := F_MD_before_0.2.2.2.2.2.2.2.2.2.2.1
theorem d_MD_before_20 : decode prog_12_method_70_code 20 = .ok (.ifCond .eq (11), 3) := F_MD_before_0.2.2.2.2.2.2.2.2.2.2.2.1
theorem d_MD_before_23 : decode prog_12_method_70_code 23 = .ok (.iload 5, 2) := F_MD_before_0.2.2.2.2.2.2.2.2.2.2.2.2.1
theorem d_MD_before_25 : decode prog_12_method_70_code 25 = .ok (.invokestatic 244, 3) := F_MD_before_0.2.2.2.2.2.2.2.2.2.2.2.2.2.1
theorem d_MD_before_28 : decode prog_12_method_70_code 28 = .ok (.ifCond .ne (7), 3) := F_MD_before_0.2.2.2.2.2.2.2.2.2.2.2.2.2.2.1
theorem d_MD_before_31 : decode prog_12_method_70_code 31 = .ok (.ldc2_w 307, 3) := F_MD_before_0.2.2.2.2.2.2.2.2.2.2.2.2.2.2.2.1
theorem d_MD_before_34 : decode prog_12_method_70_code 34 = .ok (.lreturn, 1) := F_MD_before_0.2.2.2.2.2.2.2.2.2.2.2.2.2.2.2.2.1
theorem d_MD_before_35 : decode prog_12_method_70_code 35 = .ok (.aload_n 0, 1) := F_MD_before_0.2.2.2.2.2.2.2.2.2.2.2.2.2.2.2.2.2.1
theorem d_MD_before_36 : decode prog_12_method_70_code 36 = .ok (.iload_n 1, 1) := F_MD_before_0.2.2.2.2.2.2.2.2.2.2.2.2.2.2.2.2.2.2.1
theorem d_MD_before_37 : decode prog_12_method_70_code 37 = .ok (.invokevirtual 280, 3) := F_MD_before_0.2.2.2.2.2.2.2.2.2.2.2.2.2.2.2.2.2.2.2.1
theorem d_MD_before_40 : decode prog_12_method_70_code 40 = .ok (.aload_n 0, 1) := F_MD_before_0.2.2.2.2.2.2.2.2.2.2.2.2.2.2.2.2.2.2.2.2.1
theorem d_MD_before_41 : decode prog_12_method_70_code 41 = .ok (.invokevirtual 172, 3) := F_MD_before_0.2.2.2.2.2.2.2.2.2.2.2.2.2.2.2.2.2.2.2.2.2.1
theorem d_MD_before_44 : decode prog_12_method_70_code 44 = .ok (.ifCond .eq (7), 3) := F_MD_before_0.2.2.2.2.2.2.2.2.2.2.2.2.2.2.2.2.2.2.2.2.2.2.1
theorem d_MD_before_47 : decode prog_12_method_70_code 47 = .ok (.ldc2_w 309, 3) := F_MD_before_0.2.2.2.2.2.2.2.2.2.2.2.2.2.2.2.2.2.2.2.2.2.2.2.1
theorem d_MD_before_50 : decode prog_12_method_70_code 50 = .ok (.lreturn, 1) := F_MD_before_0.2.2.2.2.2.2.2.2.2.2.2.2.2.2.2.2.2.2.2.2.2.2.2.2.1
theorem d_MD_before_51 : decode prog_12_method_70_code 51 = .ok (.aload_n 0, 1) := F_MD_before_0.2.2.2.2.2.2.2.2.2.2.2.2.2.2.2.2.2.2.2.2.2.2.2.2.2.1
theorem d_MD_before_52 : decode prog_12_method_70_code 52 = .ok (.aload_n 0, 1) := F_MD_before_0.2.2.2.2.2.2.2.2.2.2.2.2.2.2.2.2.2.2.2.2.2.2.2.2.2.2.1
theorem d_MD_before_53 : decode prog_12_method_70_code 53 = .ok (.getfield 41, 3) := F_MD_before_0.2.2.2.2.2.2.2.2.2.2.2.2.2.2.2.2.2.2.2.2.2.2.2.2.2.2.2.1
theorem d_MD_before_56 : decode prog_12_method_70_code 56 = .ok (.iload_n 2, 1) := F_MD_before_0.2.2.2.2.2.2.2.2.2.2.2.2.2.2.2.2.2.2.2.2.2.2.2.2.2.2.2.2.1
theorem d_MD_before_57 : decode prog_12_method_70_code 57 = .ok (.i2l, 1) := F_MD_before_0.2.2.2.2.2.2.2.2.2.2.2.2.2.2.2.2.2.2.2.2.2.2.2.2.2.2.2.2.2.1
theorem d_MD_before_58 : decode prog_12_method_70_code 58 = .ok (.iload_n 3, 1) := F_MD_before_0.2.2.2.2.2.2.2.2.2.2.2.2.2.2.2.2.2.2.2.2.2.2.2.2.2.2.2.2.2.2.1
theorem d_MD_before_59 : decode prog_12_method_70_code 59 = .ok (.i2l, 1) := F_MD_before_0.2.2.2.2.2.2.2.2.2.2.2.2.2.2.2.2.2.2.2.2.2.2.2.2.2.2.2.2.2.2.2.1
theorem F_MD_before_60 : Jvm.Free.DS.Facts prog_12_method_70_code 60 [(.iload 4, 2), (.i2l, 1), (.invokevirtual 294, 3), (.aload_n 0, 1), (.getfield 50, 3), (.iload 5, 2), (.laload, 1), (.lreturn, 1)] := Jvm.Free.DS.facts 60 _ (by decide +kernel) (by decide +kernel)
theorem d_MD_before_60 : decode prog_12_method_70_code 60 = .ok (.iload 4, 2) := F_MD_before_60.1
theorem d_MD_before_62 : decode prog_12_method_70_code 62 = .ok (.i2l, 1) := F_MD_before_60.2.1
theorem d_MD_before_63 : decode prog_12_method_70_code 63 = .ok (.invokevirtual 294, 3) := F_MD_before_60.2.2.1
theorem d_MD_before_66 : decode prog_12_method_70_code 66 = .ok (.aload_n 0, 1) := F_MD_before_60.2.2.2.1
theorem d_MD_before_67 : decode prog_12_method_70_code 67 = .ok (.getfield 50, 3) := F_MD_before_60.2.2.2.2.1
theorem d_MD_before_70 : decode prog_12_method_70_code 70 = .ok (.iload 5, 2) := F_MD_before_60.2.2.2.2.2.1
theorem d_MD_before_72 : decode prog_12_method_70_code 72 = .ok (.laload, 1) := F_MD_before_60.2.2.2.2.2.2.1
theorem d_MD_before_73 : decode prog_12_method_70_code 73 = .ok (.lreturn, 1) := F_MD_before_60.2.2.2.2.2.2.2.1
theorem F_MD_line_0 : Jvm.Free.DS.Facts prog_12_method_71_code 0 [(.aload_n 0, 1), (.iconst 0, 1), (.putfield 74, 3), (.aload_n 0, 1), (.iload_n 1, 1), (.invokevirtual 241, 3), (.ifCond .eq (21), 3), (.iload_n 2, 1), (.iload_n 3, 1), (.iload 4, 2), (.invokestatic 303, 3), (.ifCond .eq (11), 3), (.iload 5, 2), (.invokestatic 244, 3), (.ifCond .ne (7), 3), (.ldc2_w 307, 3), (.lreturn, 1), (.aload_n 0, 1), (.iload_n 1, 1), (.invokevirtual 280, 3), (.aload_n 0, 1), (.invokevirtual 172, 3), (.ifCond .eq (7), 3), (.ldc2_w 309, 3), (.lreturn, 1), (.aload_n 0, 1), (.aload_n 0, 1), (.getfield 41, 3), (.iconst 0, 1), (.laload, 1), (.iload_n 2, 1), (.i2l, 1)] := Jvm.Free.DS.facts 0 _ (by decide +kernel) (by decide +kernel)
theorem d_MD_line_0 : decode prog_12_method_71_code 0 = .ok (.aload_n 0, 1) := F_MD_line_0.1
theorem d_MD_line_1 : decode prog_12_method_71_code 1 = .ok (.iconst 0, 1) := F_MD_line_0.2.1
theorem d_MD_line_2 : decode prog_12_method_71_code 2 = .ok (.putfield 74, 3) := F_MD_line_0.2.2.1
theorem d_MD_line_5 : decode prog_12_method_71_code 5 = .ok (.aload_n 0, 1) := F_MD_line_0.2.2.2.1
theorem d_MD_line_6 : decode prog_12_method_71_code 6 = .ok (.iload_n 1, 1) := F_MD_line_0.2.2.2.2.1
theorem d_MD_line_7 : decode prog_12_method_71_code 7 = .ok (.invokevirtual 241, 3) := F_MD_line_0.2.2.2.2.2.1
theorem d_MD_line_10 : decode prog_12_method_71_code 10 = .ok (.ifCond .eq (21), 3) := F_MD_line_0.2.2.2.2.2.2.1
theorem d_MD_line_13 : decode prog_12_method_71_code 13 = .ok (.iload_n 2, 1) := F_MD_line_0.2.2.2.2.2.2.2.1
theorem d_MD_line_14 : decode prog_12_method_71_code 14 = .ok (.iload_n 3, 1) := F_MD_line_0.2.2.2.2.2.2.2.2.1
theorem d_MD_line_15 : decode prog_12_method_71_code 15 = .ok (.iload 4, 2) := F_MD_line_0.2.2.2.2.2.2.2.2.2.1
theorem d_MD_line_17 : decode prog_12_method_71_code 17 = .ok (.invokestatic 303, 3) := F_MD_line_0.2.2.2.2.2.2.2.2.2.2.1
theorem d_MD_line_20 : decode prog_12_method_71_code 20 = .ok (.ifCond .eq (11), 3) := F_MD_line_0.2.2.2.2.2.2.2.2.2.2.2.1
theorem d_MD_line_23 : decode prog_12_method_71_code 23 = .ok (.iload 5, 2) := F_MD_line_0.2.2.2.2.2.2.2.2.2.2.2.2.1
theorem d_MD_line_25 : decode prog_12_method_71_code 25 = .ok (.invokestatic 244, 3) := F_MD_line_0.2.2.2.2.2.2.2.2.2.2.2.2.2.1
theorem d_MD_line_28 : decode prog_12_method_71_code 28 = .ok (.ifCond .ne (7), 3) := F_MD_line_0.2.2.2.2.2.2.2.2.2.2.2.2.2.2.1
theorem d_MD_line_31 : decode prog_12_method_71_code 31 = .ok (.ldc2_w 307, 3) := F_MD_line_0.2.2.2.2.2.2.2.2.2.2.2.2.2.2.2.1
theorem d_MD_line_34 : decode prog_12_method_71_code 34 = .ok (.lreturn, 1) := F_MD_line_0.2.2.2.2.2.2.2.2.2.2.2.2.2.2.2.2.1
theorem d_MD_line_35 : decode prog_12_method_71_code 35 = .ok (.aload_n 0, 1) := F_MD_line_0.2.2.2.2.2.2.2.2.2.2.2.2.2.2.2.2.2.1
theorem d_MD_line_36 : decode prog_12_method_71_code 36 = .ok (.iload_n 1, 1) := F_MD_line_0.2.2.2.2.2.2.2.2.2.2.2.2.2.2.2.2.2.2.1
theorem d_MD_line_37 : decode prog_12_method_71_code 37 = .ok (.invokevirtual 280, 3) := F_MD_line_0.2.2.2.2.2.2.2.2.2.2.2.2.2.2.2.2.2.2.2.1
theorem d_MD_line_40 : decode prog_12_method_71_code 40 = .ok (.aload_n 0, 1) := F_MD_line_0.2.2.2.2.2.2.2.2.2.2.2.2.2.2.2.2.2.2.2.2.1
theorem d_MD_line_41 : decode prog_12_method_71_code 41 = .ok (.invokevirtual 172, 3) := F_MD_line_0.2.2.2.2.2.2.2.2.2.2.2.2.2.2.2.2.2.2.2.2.2.1
theorem d_MD_line_44 : decode prog_12_method_71_code 44 = .ok (.ifCond .eq (7), 3) := F_MD_line_0.2.2.2.2.2.2.2.2.2.2.2.2.2.2.2.2.2.2.2.2.2.2.1
theorem d_MD_line_47 : decode prog_12_method_71_code 47 = .ok (.ldc2_w 309, 3) := F_MD_line_0.2.2.2.2.2.2.2.2.2.2.2.2.2.2.2.2.2.2.2.2.2.2.2.1
theorem d_MD_line_50 : decode prog_12_method_71_code 50 = .ok (.lreturn, 1) := F_MD_line_0.2.2.2.2.2.2.2.2.2.2.2.2.2.2.2.2.2.2.2.2.2.2.2.2.1
theorem d_MD_line_51 : decode prog_12_method_71_code 51 = .ok (.aload_n 0, 1) := F_MD_line_0.2.2.2.2.2.2.2.2.2.2.2.2.2.2.2.2.2.2.2.2.2.2.2.2.2.1
theorem d_MD_line_52 : decode prog_12_method_71_code 52 = .ok (.aload_n 0, 1) := F_MD_line_0.2.2.2.2.2.2.2.2.2.2.2.2.2.2.2.2.2.2.2.2.2.2.2.2.2.2.1
theorem d_MD_line_53 : decode prog_12_method_71_code 53 = .ok (.getfield 41, 3) := F_MD_line_0.2.2.2.2.2.2.2.2.2.2.2.2.2.2.2.2.2.2.2.2.2.2.2.2.2.2.2.1
theorem d_MD_line_56 : decode prog_12_method_71_code 56 = .ok (.iconst 0, 1) := F_MD_line_0.2.2.2.2.2.2.2.2.2.2.2.2.2.2.2.2.2.2.2.2.2.2.2.2.2.2.2.2.1
theorem d_MD_line_57 : decode prog_12_method_71_code 57 = .ok (.laload, 1) := F_MD_line_0.2.2.2.2.2.2.2.2.2.2.2.2.2.2.2.2.2.2.2.2.2.2.2.2.2.2.2.2.2.1
theorem d_MD_line_58 : decode prog_12_method_71_code 58 = .ok (.iload_n 2, 1) := F_MD_line_0.2.2.2.2.2.2.2.2.2.2.2.2.2.2.2.2.2.2.2.2.2.2.2.2.2.2.2.2.2.2.1
theorem d_MD_line_59 : decode prog_12_method_71_code 59 = .ok (.i2l, 1) := F_MD_line_0.2.2.2.2.2.2.2.2.2.2.2.2.2.2.2.2.2.2.2.2.2.2.2.2.2.2.2.2.2.2.2.1
theorem F_MD_line_60 : Jvm.Free.DS.Facts prog_12_method_71_code 60 [(.lmul, 1), (.aload_n 0, 1), (.getfield 41, 3), (.iconst 3, 1), (.laload, 1), (.iload_n 3, 1), (.i2l, 1), (.lmul, 1), (.ladd, 1), (.aload_n 0, 1), (.getfield 41, 3), (.bipush (6), 2), (.laload, 1), (.iload 4, 2), (.i2l, 1), (.lmul, 1), (.ladd, 1), (.aload_n 0, 1), (.getfield 41, 3), (.iconst 1, 1), (.laload, 1), (.iload_n 2, 1), (.i2l, 1), (.lmul, 1), (.aload_n 0, 1), (.getfield 41, 3), (.iconst 4, 1), (.laload, 1), (.iload_n 3, 1), (.i2l, 1), (.lmul, 1), (.ladd, 1)] := Jvm.Free.DS.facts 60 _ (by decide +kernel) (by decide +kernel)
theorem d_MD_line_60 : decode prog_12_method_71_code 60 = .ok (.lmul, 1) := F_MD_line_60.1
theorem d_MD_line_61 : decode prog_12_method_71_code 61 = .ok (.aload_n 0, 1) := F_MD_line_60.2.1
theorem d_MD_line_62 : decode prog_12_method_71_code 62 = .ok (.getfield 41, 3) := F_MD_line_60.2.2.1
theorem d_MD_line_65 : decode prog_12_method_71_code 65 = .ok (.iconst 3, 1) := F_MD_line_60.2.2.2.1
theorem d_MD_line_66 : decode prog_12_method_71_code 66 = .ok (.laload, 1) := F_MD_line_60.2.2.2.2.1
theorem d_MD_line_67 : decode prog_12_method_71_code 67 = .ok (.iload_n 3, 1) := F_MD_line_60.2.2.2.2.2.1
theorem d_MD_line_68 : decode prog_12_method_71_code 68 = .ok (.i2l, 1) := F_MD_line_60.2.2.2.2.2.2.1
theorem d_MD_line_69 : decode prog_12_method_71_code 69 = .ok (.lmul, 1) := F_MD_line_60.2.2.2.2.2.2.2.1
theorem d_MD_line_70 : decode prog_12_method_71_code 70 = .ok (.ladd, 1) := F_MD_line_60.2.2.2.2.2.2.2.2.1
theorem d_MD_line_71 : decode prog_12_method_71_code 71 = .ok (.aload_n 0, 1) := F_MD_line_60.2.2.2.2.2.2.2.2.2.1
theorem d_MD_line_72 : decode prog_12_method_71_code 72 = .ok (.getfield 41, 3) := F_MD_line_60.2.2.2.2.2.2.2.2.2.2.1
theorem d_MD_line_75 : decode prog_12_method_71_code 75 = .ok (.bipush (6), 2) := F_MD_line_60.2.2.2.2.2.2.2.2.2.2.2.1
theorem d_MD_line_77 : decode prog_12_method_71_code 77 = .ok (.laload, 1) := F_MD_line_60.2.2.2.2.2.2.2.2.2.2.2.2.1
theorem d_MD_line_78 : decode prog_12_method_71_code 78 = .ok (.iload 4, 2) := F_MD_line_60.2.2.2.2.2.2.2.2.2.2.2.2.2.1
theorem d_MD_line_80 : decode prog_12_method_71_code 80 = .ok (.i2l, 1) := F_MD_line_60.2.2.2.2.2.2.2.2.2.2.2.2.2.2.1
theorem d_MD_line_81 : decode prog_12_method_71_code 81 = .ok (.lmul, 1) := F_MD_line_60.2.2.2.2.2.2.2.2.2.2.2.2.2.2.2.1
theorem d_MD_line_82 : decode prog_12_method_71_code 82 = .ok (.ladd, 1) := F_MD_line_60.2.2.2.2.2.2.2.2.2.2.2.2.2.2.2.2.1
theorem d_MD_line_83 : decode prog_12_method_71_code 83 = .ok (.aload_n 0, 1) := F_MD_line_60.2.2.2.2.2.2.2.2.2.2.2.2.2.2.2.2.2.1
theorem d_MD_line_84 : decode prog_12_method_71_code 84 = .ok (.getfield 41, 3) := F_MD_line_60.2.2.2.2.2.2.2.2.2.2.2.2.2.2.2.2.2.2.1
theorem d_MD_line_87 : decode prog_12_method_71_code 87 = .ok (.iconst 1, 1) := F_MD_line_60.2.2.2.2.2.2.2.2.2.2.2.2.2.2.2.2.2.2.2.1
theorem d_MD_line_88 : decode prog_12_method_71_code 88 = .ok (.laload, 1) := F_MD_line_60.2.2.2.2.2.2.2.2.2.2.2.2.2.2.2.2.2.2.2.2.1
theorem d_MD_line_89 : decode prog_12_method_71_code 89 = .ok (.iload_n 2, 1) := F_MD_line_60.2.2.2.2.2.2.2.2.2.2.2.2.2.2.2.2.2.2.2.2.2.1
theorem d_MD_line_90 : decode prog_12_method_71_code 90 = .ok (.i2l, 1) := F_MD_line_60.2.2.2.2.2.2.2.2.2.2.2.2.2.2.2.2.2.2.2.2.2.2.1
theorem d_MD_line_91 : decode prog_12_method_71_code 91 = .ok (.lmul, 1) := F_MD_line_60.2.2.2.2.2.2.2.2.2.2.2.2.2.2.2.2.2.2.2.2.2.2.2.1
theorem d_MD_line_92 : decode prog_12_method_71_code 92 = .ok (.aload_n 0, 1) := F_MD_line_60.2.2.2.2.2.2.2.2.2.2.2.2.2.2.2.2.2.2.2.2.2.2.2.2.1
theorem d_MD_line_93 : decode prog_12_method_71_code 93 = .ok (.getfield 41, 3) := F_MD_line_60.2.2.2.2.2.2.2.2.2.2.2.2.2.2.2.2.2.2.2.2.2.2.2.2.2.1
theorem d_MD_line_96 : decode prog_12_method_71_code 96 = .ok (.iconst 4, 1) := F_MD_line_60.2.2.2.2.2.2.2.2.2.2.2.2.2.2.2.2.2.2.2.2.2.2.2.2.2.2.1
theorem d_MD_line_97 : decode prog_12_method_71_code 97 = .ok (.laload, 1) := F_MD_line_60.2.2.2.2.2.2.2.2.2.2.2.2.2.2.2.2.2.2.2.2.2.2.2.2.2.2.2.1
theorem d_MD_line_98 : decode prog_12_method_71_code 98 = .ok (.iload_n 3, 1) := F_MD_line_60.2.2.2.2.2.2.2.2.2.2.2.2.2.2.2.2.2.2.2.2.2.2.2.2.2.2.2.2.1
theorem d_MD_line_99 : decode prog_12_method_71_code 99 = .ok (.i2l, 1) := F_MD_line_60.2.2.2.2.2.2.2.2.2.2.2.2.2.2.2.2.2.2.2.2.2.2.2.2.2.2.2.2.2.1
theorem d_MD_line_100 : decode prog_12_method_71_code 100 = .ok (.lmul, 1) := F_MD_line_60.2.2.2.2.2.2.2.2.2.2.2.2.2.2.2.2.2.2.2.2.2.2.2.2.2.2.2.2.2.2.1
theorem d_MD_line_101 : decode prog_12_method_71_code 101 = .ok (.ladd, 1) := F_MD_line_60.2.2.2.2.2.2.2.2.2.2.2.2.2.2.2.2.2.2.2.2.2.2.2.2.2.2.2.2.2.2.2.1
theorem F_MD_line_102 : Jvm.Free.DS.Facts prog_12_method_71_code 102 [(.aload_n 0, 1), (.getfield 41, 3), (.bipush (7), 2), (.laload, 1), (.iload 4, 2), (.i2l, 1), (.lmul, 1), (.ladd, 1), (.aload_n 0, 1), (.getfield 41, 3), (.iconst 2, 1), (.laload, 1), (.iload_n 2, 1), (.i2l, 1), (.lmul, 1), (.aload_n 0, 1), (.getfield 41, 3), (.iconst 5, 1), (.laload, 1), (.iload_n 3, 1), (.i2l, 1), (.lmul, 1), (.ladd, 1), (.aload_n 0, 1), (.getfield 41, 3), (.bipush (8), 2), (.laload, 1), (.iload 4, 2), (.i2l, 1), (.lmul, 1), (.ladd, 1), (.invokevirtual 179, 3)] := Jvm.Free.DS.facts 102 _ (by decide +kernel) (by decide +kernel)
theorem d_MD_line_102 : decode prog_12_method_71_code 102 = .ok (.aload_n 0, 1) := F_MD_line_102.1
theorem d_MD_line_103 : decode prog_12_method_71_code 103 = .ok (.getfield 41, 3) := F_MD_line_102.2.1
theorem d_MD_line_106 : decode prog_12_method_71_code 106 = .ok (.bipush (7), 2) := F_MD_line_102.2.2.1
theorem d_MD_line_108 : decode prog_12_method_71_code 108 = .ok (.laload, 1) := F_MD_line_102.2.2.2.1
theorem d_MD_line_109 : decode prog_12_method_71_code 109 = .ok (.iload 4, 2) := F_MD_line_102.2.2.2.2.1
theorem d_MD_line_111 : decode prog_12_method_71_code 111 = .ok (.i2l, 1) := F_MD_line_102.2.2.2.2.2.1
theorem d_MD_line_112 : decode prog_12_method_71_code 112 = .ok (.lmul, 1) := F_MD_line_102.2.2.2.2.2.2.1
theorem d_MD_line_113 : decode prog_12_method_71_code 113 = .ok (.ladd, 1) := F_MD_line_102.2.2.2.2.2.2.2.1
theorem d_MD_line_114 : decode prog_12_method_71_code 114 = .ok (.aload_n 0, 1) := F_MD_line_102.2.2.2.2.2.2.2.2.1
theorem d_MD_line_115 : decode prog_12_method_71_code 115 = .ok (.getfield 41, 3) := F_MD_line_102.2.2.2.2.2.2.2.2.2.1
theorem d_MD_line_118 : decode prog_12_method_71_code 118 = .ok (.iconst 2, 1) := F_MD_line_102.2.2.2.2.2.2.2.2.2.2.1
theorem d_MD_line_119 : decode prog_12_method_71_code 119 = .ok (.laload, 1) := F_MD_line_102.2.2.2.2.2.2.2.2.2.2.2.1
theorem d_MD_line_120 : decode prog_12_method_71_code 120 = .ok (.iload_n 2, 1) := F_MD_line_102.2.2.2.2.2.2.2.2.2.2.2.2.1
theorem d_MD_line_121 : decode prog_12_method_71_code 121 = .ok (.i2l, 1) := F_MD_line_102.2.2.2.2.2.2.2.2.2.2.2.2.2.1
theorem d_MD_line_122 : decode prog_12_method_71_code 122 = .ok (.lmul, 1) := F_MD_line_102.2.2.2.2.2.2.2.2.2.2.2.2.2.2.1
theorem d_MD_line_123 : decode prog_12_method_71_code 123 = .ok (.aload_n 0, 1) := F_MD_line_102.2.2.2.2.2.2.2.2.2.2.2.2.2.2.2.1
theorem d_MD_line_124 : decode prog_12_method_71_code 124 = .ok (.getfield 41, 3) := F_MD_line_102.2.2.2.2.2.2.2.2.2.2.2.2.2.2.2.2.1
theorem d_MD_line_127 : decode prog_12_method_71_code 127 = .ok (.iconst 5, 1) := F_MD_line_102.2.2.2.2.2.2.2.2.2.2.2.2.2.2.2.2.2.1
theorem d_MD_line_128 : decode prog_12_method_71_code 128 = .ok (.laload, 1) := F_MD_line_102.2.2.2.2.2.2.2.2.2.2.2.2.2.2.2.2.2.2.1
theorem d_MD_line_129 : decode prog_12_method_71_code 129 = .ok (.iload_n 3, 1) := F_MD_line_102.2.2.2.2.2.2.2.2.2.2.2.2.2.2.2.2.2.2.2.1
theorem d_MD_line_130 : decode prog_12_method_71_code 130 = .ok (.i2l, 1) := F_MD_line_102.2.2.2.2.2.2.2.2.2.2.2.2.2.2.2.2.2.2.2.2.1
theorem d_MD_line_131 : decode prog_12_method_71_code 131 = .ok (.lmul, 1) := F_MD_line_102.2.2.2.2.2.2.2.2.2.2.2.2.2.2.2.2.2.2.2.2.2.1
theorem d_MD_line_132 : decode prog_12_method_71_code 132 = .ok (.ladd, 1) := F_MD_line_102.2.2.2.2.2.2.2.2.2.2.2.2.2.2.2.2.2.2.2.2.2.2.1
theorem d_MD_line_133 : decode prog_12_method_71_code 133 = .ok (.aload_n 0, 1) := F_MD_line_102.2.2.2.2.2.2.2.2.2.2.2.2.2.2.2.2.2.2.2.2.2.2.2.1
theorem d_MD_line_134 : decode prog_12_method_71_code 134 = .ok (.getfield 41, 3) := F_MD_line_102.2.2.2.2.2.2.2.2.2.2.2.2.2.2.2.2.2.2.2.2.2.2.2.2.1
theorem d_MD_line_137 : decode prog_12_method_71_code 137 = .ok (.bipush (8), 2) := F_MD_line_102.2.2.2.2.2.2.2.2.2.2.2.2.2.2.2.2.2.2.2.2.2.2.2.2.2.1
theorem d_MD_line_139 : decode prog_12_method_71_code 139 = .ok (.laload, 1) := F_MD_line_102.2.2.2.2.2.2.2.2.2.2.2.2.2.2.2.2.2.2.2.2.2.2.2.2.2.2.1
theorem d_MD_line_140 : decode prog_12_method_71_code 140 = .ok (.iload 4, 2) := F_MD_line_102.2.2.2.2.2.2.2.2.2.2.2.2.2.2.2.2.2.2.2.2.2.2.2.2.2.2.2.1
theorem d_MD_line_142 : decode prog_12_method_71_code 142 = .ok (.i2l, 1) := F_MD_line_102.2.2.2.2.2.2.2.2.2.2.2.2.2.2.2.2.2.2.2.2.2.2.2.2.2.2.2.2.1
theorem d_MD_line_143 : decode prog_12_method_71_code 143 = .ok (.lmul, 1) := F_MD_line_102.2.2.2.2.2.2.2.2.2.2.2.2.2.2.2.2.2.2.2.2.2.2.2.2.2.2.2.2.2.1
theorem d_MD_line_144 : decode prog_12_method_71_code 144 = .ok (.ladd, 1) := F_MD_line_102.2.2.2.2.2.2.2.2.2.2.2.2.2.2.2.2.2.2.2.2.2.2.2.2.2.2.2.2.2.2.1
theorem d_MD_line_145 : decode prog_12_method_71_code 145 = .ok (.invokevirtual 179, 3) := F_MD_line_102.2.2.2.2.2.2.2.2.2.2.2.2.2.2.2.2.2.2.2.2.2.2.2.2.2.2.2.2.2.2.2.1
theorem F_MD_line_148 : Jvm.Free.DS.Facts prog_12_method_71_code 148 [(.aload_n 0, 1), (.getfield 50, 3), (.iload 5, 2), (.laload, 1), (.lreturn, 1)] := Jvm.Free.DS.facts 148 _ (by decide +kernel) (by decide +kernel)
theorem d_MD_line_148 : decode prog_12_method_71_code 148 = .ok (.aload_n 0, 1) := F_MD_line_148.1
theorem d_MD_line_149 : decode prog_12_method_71_code 149 = .ok (.getfield 50, 3) := F_MD_line_148.2.1
theorem d_MD_line_152 : decode prog_12_method_71_code 152 = .ok (.iload 5, 2) := F_MD_line_148.2.2.1
theorem d_MD_line_154 : decode prog_12_method_71_code 154 = .ok (.laload, 1) := F_MD_line_148.2.2.2.1
theorem d_MD_line_155 : decode prog_12_method_71_code 155 = .ok (.lreturn, 1) := F_MD_line_148.2.2.2.2.1
