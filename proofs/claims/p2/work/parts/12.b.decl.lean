/-! declarations and decodings of methods (by program) -/
def M_Rows_isFinite : pM := (⟨"CornerMaps$Rows", "isFinite", "([J)Z"⟩, prog_9_method_13_code, 1, some .boolean)
theorem co_Rows_isFinite : CalOK M_Rows_isFinite 1 := ⟨g_at 645 (by decide +kernel) rfl, g_at 15 (by decide +kernel) rfl, by decide +kernel, by decide +kernel, by decide +kernel⟩
theorem pn_Rows_isFinite : plainName M_Rows_isFinite.1.cls = true := by decide +kernel
def M_CM_undo : pM := (⟨"CornerMaps", "undo", "()I"⟩, prog_1_method_19_code, 1, some .int)
theorem co_CM_undo : CalOK M_CM_undo 0 := ⟨g_at 649 (by decide +kernel) rfl, g_at 1 (by decide +kernel) rfl, by decide +kernel, by decide +kernel, by decide +kernel⟩
theorem pn_CM_undo : plainName M_CM_undo.1.cls = true := by decide +kernel
def M_Past_undoLatest : pM := (⟨"CornerMaps$Past", "undoLatest", "(LCornerMaps$Plane;)V"⟩, prog_5_method_8_code, 4, none)
theorem co_Past_undoLatest : CalOK M_Past_undoLatest 1 := ⟨g_at 653 (by decide +kernel) rfl, g_at 7 (by decide +kernel) rfl, by decide +kernel, by decide +kernel, by decide +kernel⟩
theorem pn_Past_undoLatest : plainName M_Past_undoLatest.1.cls = true := by decide +kernel
def M_Plane_returnMap : pM := (⟨"CornerMaps$Plane", "returnMap", "(I[J)V"⟩, prog_6_method_8_code, 4, none)
theorem co_Plane_returnMap : CalOK M_Plane_returnMap 2 := ⟨g_at 658 (by decide +kernel) rfl, g_at 2 (by decide +kernel) rfl, by decide +kernel, by decide +kernel, by decide +kernel⟩
theorem pn_Plane_returnMap : plainName M_Plane_returnMap.1.cls = true := by decide +kernel
def M_CM_image : pM := (⟨"CornerMaps", "image", "(IIIII)J"⟩, prog_1_method_20_code, 6, some .long)
theorem co_CM_image : CalOK M_CM_image 5 := ⟨g_at 662 (by decide +kernel) rfl, g_at 1 (by decide +kernel) rfl, by decide +kernel, by decide +kernel, by decide +kernel⟩
theorem pn_CM_image : plainName M_CM_image.1.cls = true := by decide +kernel
def M_CM_isTriple : pM := (⟨"CornerMaps", "isTriple", "(III)Z"⟩, prog_1_method_81_code, 3, some .boolean)
theorem co_CM_isTriple : CalOK M_CM_isTriple 3 := ⟨g_at 665 (by decide +kernel) rfl, g_at 1 (by decide +kernel) rfl, by decide +kernel, by decide +kernel, by decide +kernel⟩
theorem pn_CM_isTriple : plainName M_CM_isTriple.1.cls = true := by decide +kernel
def M_CM_isThird : pM := (⟨"CornerMaps", "isThird", "(I)Z"⟩, prog_1_method_75_code, 1, some .boolean)
theorem co_CM_isThird : CalOK M_CM_isThird 1 := ⟨g_at 668 (by decide +kernel) rfl, g_at 1 (by decide +kernel) rfl, by decide +kernel, by decide +kernel, by decide +kernel⟩
theorem pn_CM_isThird : plainName M_CM_isThird.1.cls = true := by decide +kernel
def M_CM_before : pM := (⟨"CornerMaps", "before", "(IIIII)J"⟩, prog_1_method_21_code, 6, some .long)
theorem co_CM_before : CalOK M_CM_before 5 := ⟨g_at 673 (by decide +kernel) rfl, g_at 1 (by decide +kernel) rfl, by decide +kernel, by decide +kernel, by decide +kernel⟩
theorem pn_CM_before : plainName M_CM_before.1.cls = true := by decide +kernel
def M_CM_line : pM := (⟨"CornerMaps", "line", "(IIIII)J"⟩, prog_1_method_22_code, 6, some .long)
theorem co_CM_line : CalOK M_CM_line 5 := ⟨g_at 678 (by decide +kernel) rfl, g_at 1 (by decide +kernel) rfl, by decide +kernel, by decide +kernel, by decide +kernel⟩
theorem pn_CM_line : plainName M_CM_line.1.cls = true := by decide +kernel
def M_Maps_pullBack : pM := (⟨"CornerMaps$Maps", "pullBack", "([J[J[J)V"⟩, prog_3_method_5_code, 4, none)
theorem co_Maps_pullBack : CalOK M_Maps_pullBack 3 := ⟨g_at 681 (by decide +kernel) rfl, g_at 16 (by decide +kernel) rfl, by decide +kernel, by decide +kernel, by decide +kernel⟩
theorem pn_Maps_pullBack : plainName M_Maps_pullBack.1.cls = true := by decide +kernel
def M_CM_horizon : pM := (⟨"CornerMaps", "horizon", "(II)J"⟩, prog_1_method_23_code, 3, some .long)
theorem co_CM_horizon : CalOK M_CM_horizon 2 := ⟨g_at 685 (by decide +kernel) rfl, g_at 1 (by decide +kernel) rfl, by decide +kernel, by decide +kernel, by decide +kernel⟩
theorem pn_CM_horizon : plainName M_CM_horizon.1.cls = true := by decide +kernel
def M_CM_vanishing : pM := (⟨"CornerMaps", "vanishing", "(II)J"⟩, prog_1_method_24_code, 3, some .long)
theorem co_CM_vanishing : CalOK M_CM_vanishing 2 := ⟨g_at 691 (by decide +kernel) rfl, g_at 1 (by decide +kernel) rfl, by decide +kernel, by decide +kernel, by decide +kernel⟩
theorem pn_CM_vanishing : plainName M_CM_vanishing.1.cls = true := by decide +kernel
def M_CM_cut : pM := (⟨"CornerMaps", "cut", "(III)I"⟩, prog_1_method_25_code, 4, some .int)
theorem co_CM_cut : CalOK M_CM_cut 3 := ⟨g_at 695 (by decide +kernel) rfl, g_at 1 (by decide +kernel) rfl, by decide +kernel, by decide +kernel, by decide +kernel⟩
theorem pn_CM_cut : plainName M_CM_cut.1.cls = true := by decide +kernel
def M_Plane_hasPoint : pM := (⟨"CornerMaps$Plane", "hasPoint", "(I)Z"⟩, prog_6_method_5_code, 2, some .boolean)
theorem co_Plane_hasPoint : CalOK M_Plane_hasPoint 1 := ⟨g_at 699 (by decide +kernel) rfl, g_at 2 (by decide +kernel) rfl, by decide +kernel, by decide +kernel, by decide +kernel⟩
theorem pn_Plane_hasPoint : plainName M_Plane_hasPoint.1.cls = true := by decide +kernel
def M_Maps_cuts : pM := (⟨"CornerMaps$Maps", "cuts", "([J[J[J)Z"⟩, prog_3_method_6_code, 3, some .boolean)
theorem co_Maps_cuts : CalOK M_Maps_cuts 3 := ⟨g_at 703 (by decide +kernel) rfl, g_at 16 (by decide +kernel) rfl, by decide +kernel, by decide +kernel, by decide +kernel⟩
theorem pn_Maps_cuts : plainName M_Maps_cuts.1.cls = true := by decide +kernel
def M_CM_bit : pM := (⟨"CornerMaps", "bit", "(Z)I"⟩, prog_1_method_82_code, 1, some .int)
theorem co_CM_bit : CalOK M_CM_bit 1 := ⟨g_at 712 (by decide +kernel) rfl, g_at 1 (by decide +kernel) rfl, by decide +kernel, by decide +kernel, by decide +kernel⟩
theorem pn_CM_bit : plainName M_CM_bit.1.cls = true := by decide +kernel
def M_Maps_height : pM := (⟨"CornerMaps$Maps", "height", "([J[J)J"⟩, prog_3_method_3_code, 2, some .long)
theorem co_Maps_height : CalOK M_Maps_height 2 := ⟨g_at 706 (by decide +kernel) rfl, g_at 16 (by decide +kernel) rfl, by decide +kernel, by decide +kernel, by decide +kernel⟩
theorem pn_Maps_height : plainName M_Maps_height.1.cls = true := by decide +kernel
def M_Rows_sign : pM := (⟨"CornerMaps$Rows", "sign", "(J)I"⟩, prog_9_method_3_code, 2, some .int)
theorem co_Rows_sign : CalOK M_Rows_sign 1 := ⟨g_at 709 (by decide +kernel) rfl, g_at 15 (by decide +kernel) rfl, by decide +kernel, by decide +kernel, by decide +kernel⟩
theorem pn_Rows_sign : plainName M_Rows_sign.1.cls = true := by decide +kernel
def M_CM_cutSides : pM := (⟨"CornerMaps", "cutSides", "(II)I"⟩, prog_1_method_26_code, 6, some .int)
theorem co_CM_cutSides : CalOK M_CM_cutSides 2 := ⟨g_at 716 (by decide +kernel) rfl, g_at 1 (by decide +kernel) rfl, by decide +kernel, by decide +kernel, by decide +kernel⟩
theorem pn_CM_cutSides : plainName M_CM_cutSides.1.cls = true := by decide +kernel
def M_CM_kind : pM := (⟨"CornerMaps", "kind", "(I)I"⟩, prog_1_method_27_code, 2, some .int)
theorem co_CM_kind : CalOK M_CM_kind 1 := ⟨g_at 720 (by decide +kernel) rfl, g_at 1 (by decide +kernel) rfl, by decide +kernel, by decide +kernel, by decide +kernel⟩
theorem pn_CM_kind : plainName M_CM_kind.1.cls = true := by decide +kernel
def M_Maps_kindOf : pM := (⟨"CornerMaps$Maps", "kindOf", "([J)I"⟩, prog_3_method_11_code, 3, some .int)
theorem co_Maps_kindOf : CalOK M_Maps_kindOf 1 := ⟨g_at 723 (by decide +kernel) rfl, g_at 16 (by decide +kernel) rfl, by decide +kernel, by decide +kernel, by decide +kernel⟩
theorem pn_Maps_kindOf : plainName M_Maps_kindOf.1.cls = true := by decide +kernel
def M_CM_turn : pM := (⟨"CornerMaps", "turn", "(I)I"⟩, prog_1_method_28_code, 3, some .int)
theorem co_CM_turn : CalOK M_CM_turn 1 := ⟨g_at 727 (by decide +kernel) rfl, g_at 1 (by decide +kernel) rfl, by decide +kernel, by decide +kernel, by decide +kernel⟩
theorem pn_CM_turn : plainName M_CM_turn.1.cls = true := by decide +kernel
def M_Maps_determinant : pM := (⟨"CornerMaps$Maps", "determinant", "([J)J"⟩, prog_3_method_10_code, 1, some .long)
theorem co_Maps_determinant : CalOK M_Maps_determinant 1 := ⟨g_at 732 (by decide +kernel) rfl, g_at 16 (by decide +kernel) rfl, by decide +kernel, by decide +kernel, by decide +kernel⟩
theorem pn_Maps_determinant : plainName M_Maps_determinant.1.cls = true := by decide +kernel
def M_CM_order : pM := (⟨"CornerMaps", "order", "(I)I"⟩, prog_1_method_29_code, 3, some .int)
theorem co_CM_order : CalOK M_CM_order 1 := ⟨g_at 736 (by decide +kernel) rfl, g_at 1 (by decide +kernel) rfl, by decide +kernel, by decide +kernel, by decide +kernel⟩
theorem pn_CM_order : plainName M_CM_order.1.cls = true := by decide +kernel
def M_Rows_alike : pM := (⟨"CornerMaps$Rows", "alike", "([J[J)Z"⟩, prog_9_method_9_code, 3, some .boolean)
theorem co_Rows_alike : CalOK M_Rows_alike 2 := ⟨g_at 739 (by decide +kernel) rfl, g_at 15 (by decide +kernel) rfl, by decide +kernel, by decide +kernel, by decide +kernel⟩
theorem pn_Rows_alike : plainName M_Rows_alike.1.cls = true := by decide +kernel
def M_CM_same : pM := (⟨"CornerMaps", "same", "(II)I"⟩, prog_1_method_30_code, 3, some .int)
theorem co_CM_same : CalOK M_CM_same 2 := ⟨g_at 743 (by decide +kernel) rfl, g_at 1 (by decide +kernel) rfl, by decide +kernel, by decide +kernel, by decide +kernel⟩
theorem pn_CM_same : plainName M_CM_same.1.cls = true := by decide +kernel
def M_CM_commute : pM := (⟨"CornerMaps", "commute", "(II)I"⟩, prog_1_method_31_code, 3, some .int)
theorem co_CM_commute : CalOK M_CM_commute 2 := ⟨g_at 747 (by decide +kernel) rfl, g_at 1 (by decide +kernel) rfl, by decide +kernel, by decide +kernel, by decide +kernel⟩
theorem pn_CM_commute : plainName M_CM_commute.1.cls = true := by decide +kernel
def M_CM_doCommute : pM := (⟨"CornerMaps", "doCommute", "(II)Z"⟩, prog_1_method_87_code, 3, some .boolean)
theorem co_CM_doCommute : CalOK M_CM_doCommute 2 := ⟨g_at 751 (by decide +kernel) rfl, g_at 1 (by decide +kernel) rfl, by decide +kernel, by decide +kernel, by decide +kernel⟩
theorem pn_CM_doCommute : plainName M_CM_doCommute.1.cls = true := by decide +kernel
def M_CM_undoes : pM := (⟨"CornerMaps", "undoes", "(II)I"⟩, prog_1_method_32_code, 3, some .int)
theorem co_CM_undoes : CalOK M_CM_undoes 2 := ⟨g_at 755 (by decide +kernel) rfl, g_at 1 (by decide +kernel) rfl, by decide +kernel, by decide +kernel, by decide +kernel⟩
theorem pn_CM_undoes : plainName M_CM_undoes.1.cls = true := by decide +kernel
def M_CM_areInverse : pM := (⟨"CornerMaps", "areInverse", "(II)Z"⟩, prog_1_method_88_code, 3, some .boolean)
theorem co_CM_areInverse : CalOK M_CM_areInverse 2 := ⟨g_at 759 (by decide +kernel) rfl, g_at 1 (by decide +kernel) rfl, by decide +kernel, by decide +kernel, by decide +kernel⟩
theorem pn_CM_areInverse : plainName M_CM_areInverse.1.cls = true := by decide +kernel
def M_CM_stays : pM := (⟨"CornerMaps", "stays", "(II)I"⟩, prog_1_method_33_code, 3, some .int)
theorem co_CM_stays : CalOK M_CM_stays 2 := ⟨g_at 763 (by decide +kernel) rfl, g_at 1 (by decide +kernel) rfl, by decide +kernel, by decide +kernel, by decide +kernel⟩
theorem pn_CM_stays : plainName M_CM_stays.1.cls = true := by decide +kernel
def M_CM_isKept : pM := (⟨"CornerMaps", "isKept", "([J[J)Z"⟩, prog_1_method_95_code, 3, some .boolean)
theorem co_CM_isKept : CalOK M_CM_isKept 2 := ⟨g_at 767 (by decide +kernel) rfl, g_at 1 (by decide +kernel) rfl, by decide +kernel, by decide +kernel, by decide +kernel⟩
theorem pn_CM_isKept : plainName M_CM_isKept.1.cls = true := by decide +kernel
def M_CM_points : pM := (⟨"CornerMaps", "points", "(II)I"⟩, prog_1_method_34_code, 5, some .int)
theorem co_CM_points : CalOK M_CM_points 2 := ⟨g_at 771 (by decide +kernel) rfl, g_at 1 (by decide +kernel) rfl, by decide +kernel, by decide +kernel, by decide +kernel⟩
theorem pn_CM_points : plainName M_CM_points.1.cls = true := by decide +kernel
def M_CM_isOfSort : pM := (⟨"CornerMaps", "isOfSort", "([J[JI)Z"⟩, prog_1_method_96_code, 5, some .boolean)
theorem co_CM_isOfSort : CalOK M_CM_isOfSort 3 := ⟨g_at 775 (by decide +kernel) rfl, g_at 1 (by decide +kernel) rfl, by decide +kernel, by decide +kernel, by decide +kernel⟩
theorem pn_CM_isOfSort : plainName M_CM_isOfSort.1.cls = true := by decide +kernel
def M_CM_join : pM := (⟨"CornerMaps", "join", "(III)J"⟩, prog_1_method_35_code, 4, some .long)
theorem co_CM_join : CalOK M_CM_join 3 := ⟨g_at 780 (by decide +kernel) rfl, g_at 1 (by decide +kernel) rfl, by decide +kernel, by decide +kernel, by decide +kernel⟩
theorem pn_CM_join : plainName M_CM_join.1.cls = true := by decide +kernel
def M_Rows_through : pM := (⟨"CornerMaps$Rows", "through", "([J[J[J)Z"⟩, prog_9_method_14_code, 3, some .boolean)
theorem co_Rows_through : CalOK M_Rows_through 3 := ⟨g_at 783 (by decide +kernel) rfl, g_at 15 (by decide +kernel) rfl, by decide +kernel, by decide +kernel, by decide +kernel⟩
theorem pn_Rows_through : plainName M_Rows_through.1.cls = true := by decide +kernel
def M_CM_inLine : pM := (⟨"CornerMaps", "inLine", "(III)I"⟩, prog_1_method_36_code, 4, some .int)
theorem co_CM_inLine : CalOK M_CM_inLine 3 := ⟨g_at 788 (by decide +kernel) rfl, g_at 1 (by decide +kernel) rfl, by decide +kernel, by decide +kernel, by decide +kernel⟩
theorem pn_CM_inLine : plainName M_CM_inLine.1.cls = true := by decide +kernel
def M_CM_areInLine : pM := (⟨"CornerMaps", "areInLine", "(III)Z"⟩, prog_1_method_91_code, 4, some .boolean)
theorem co_CM_areInLine : CalOK M_CM_areInLine 3 := ⟨g_at 792 (by decide +kernel) rfl, g_at 1 (by decide +kernel) rfl, by decide +kernel, by decide +kernel, by decide +kernel⟩
theorem pn_CM_areInLine : plainName M_CM_areInLine.1.cls = true := by decide +kernel
def M_CM_meet : pM := (⟨"CornerMaps", "meet", "(IIIII)J"⟩, prog_1_method_37_code, 7, some .long)
theorem co_CM_meet : CalOK M_CM_meet 5 := ⟨g_at 797 (by decide +kernel) rfl, g_at 1 (by decide +kernel) rfl, by decide +kernel, by decide +kernel, by decide +kernel⟩
theorem pn_CM_meet : plainName M_CM_meet.1.cls = true := by decide +kernel
def M_CM_arePoints : pM := (⟨"CornerMaps", "arePoints", "(IIII)Z"⟩, prog_1_method_83_code, 5, some .boolean)
theorem co_CM_arePoints : CalOK M_CM_arePoints 4 := ⟨g_at 801 (by decide +kernel) rfl, g_at 1 (by decide +kernel) rfl, by decide +kernel, by decide +kernel, by decide +kernel⟩
theorem pn_CM_arePoints : plainName M_CM_arePoints.1.cls = true := by decide +kernel
def M_CM_share : pM := (⟨"CornerMaps", "share", "(IIIII)J"⟩, prog_1_method_38_code, 11, some .long)
theorem co_CM_share : CalOK M_CM_share 5 := ⟨g_at 805 (by decide +kernel) rfl, g_at 1 (by decide +kernel) rfl, by decide +kernel, by decide +kernel, by decide +kernel⟩
theorem pn_CM_share : plainName M_CM_share.1.cls = true := by decide +kernel
def M_CM_isPart : pM := (⟨"CornerMaps", "isPart", "(I)Z"⟩, prog_1_method_74_code, 1, some .boolean)
theorem co_CM_isPart : CalOK M_CM_isPart 1 := ⟨g_at 808 (by decide +kernel) rfl, g_at 1 (by decide +kernel) rfl, by decide +kernel, by decide +kernel, by decide +kernel⟩
theorem pn_CM_isPart : plainName M_CM_isPart.1.cls = true := by decide +kernel
def M_CM_hasThreeAlike : pM := (⟨"CornerMaps", "hasThreeAlike", "(IIII)Z"⟩, prog_1_method_92_code, 5, some .boolean)
theorem co_CM_hasThreeAlike : CalOK M_CM_hasThreeAlike 4 := ⟨g_at 812 (by decide +kernel) rfl, g_at 1 (by decide +kernel) rfl, by decide +kernel, by decide +kernel, by decide +kernel⟩
theorem pn_CM_hasThreeAlike : plainName M_CM_hasThreeAlike.1.cls = true := by decide +kernel
def M_CM_axisOutside : pM := (⟨"CornerMaps", "axisOutside", "(III)I"⟩, prog_1_method_93_code, 5, some .int)
theorem co_CM_axisOutside : CalOK M_CM_axisOutside 3 := ⟨g_at 820 (by decide +kernel) rfl, g_at 1 (by decide +kernel) rfl, by decide +kernel, by decide +kernel, by decide +kernel⟩
theorem pn_CM_axisOutside : plainName M_CM_axisOutside.1.cls = true := by decide +kernel
def M_CM_span : pM := (⟨"CornerMaps", "span", "(III)J"⟩, prog_1_method_94_code, 8, some .long)
theorem co_CM_span : CalOK M_CM_span 3 := ⟨g_at 824 (by decide +kernel) rfl, g_at 1 (by decide +kernel) rfl, by decide +kernel, by decide +kernel, by decide +kernel⟩
theorem pn_CM_span : plainName M_CM_span.1.cls = true := by decide +kernel
def M_Rows_lowest : pM := (⟨"CornerMaps$Rows", "lowest", "(JJI)J"⟩, prog_9_method_6_code, 7, some .long)
theorem co_Rows_lowest : CalOK M_Rows_lowest 3 := ⟨g_at 827 (by decide +kernel) rfl, g_at 15 (by decide +kernel) rfl, by decide +kernel, by decide +kernel, by decide +kernel⟩
theorem pn_Rows_lowest : plainName M_Rows_lowest.1.cls = true := by decide +kernel
def M_CM_areAlike : pM := (⟨"CornerMaps", "areAlike", "(II)Z"⟩, prog_1_method_90_code, 3, some .boolean)
theorem co_CM_areAlike : CalOK M_CM_areAlike 2 := ⟨g_at 816 (by decide +kernel) rfl, g_at 1 (by decide +kernel) rfl, by decide +kernel, by decide +kernel, by decide +kernel⟩
theorem pn_CM_areAlike : plainName M_CM_areAlike.1.cls = true := by decide +kernel
def M_CM_fourth : pM := (⟨"CornerMaps", "fourth", "(IIII)J"⟩, prog_1_method_39_code, 11, some .long)
theorem co_CM_fourth : CalOK M_CM_fourth 4 := ⟨g_at 831 (by decide +kernel) rfl, g_at 1 (by decide +kernel) rfl, by decide +kernel, by decide +kernel, by decide +kernel⟩
theorem pn_CM_fourth : plainName M_CM_fourth.1.cls = true := by decide +kernel
def M_CM_track : pM := (⟨"CornerMaps", "track", "(IIII)J"⟩, prog_1_method_40_code, 5, some .long)
theorem co_CM_track : CalOK M_CM_track 4 := ⟨g_at 836 (by decide +kernel) rfl, g_at 1 (by decide +kernel) rfl, by decide +kernel, by decide +kernel, by decide +kernel⟩
theorem pn_CM_track : plainName M_CM_track.1.cls = true := by decide +kernel
def M_CM_follow : pM := (⟨"CornerMaps", "follow", "(III)Z"⟩, prog_1_method_97_code, 5, some .boolean)
theorem co_CM_follow : CalOK M_CM_follow 3 := ⟨g_at 840 (by decide +kernel) rfl, g_at 1 (by decide +kernel) rfl, by decide +kernel, by decide +kernel, by decide +kernel⟩
theorem pn_CM_follow : plainName M_CM_follow.1.cls = true := by decide +kernel
def M_CM_stepOn : pM := (⟨"CornerMaps", "stepOn", "(I)Z"⟩, prog_1_method_98_code, 2, some .boolean)
theorem co_CM_stepOn : CalOK M_CM_stepOn 1 := ⟨g_at 844 (by decide +kernel) rfl, g_at 1 (by decide +kernel) rfl, by decide +kernel, by decide +kernel, by decide +kernel⟩
theorem pn_CM_stepOn : plainName M_CM_stepOn.1.cls = true := by decide +kernel
def M_CM_cycle : pM := (⟨"CornerMaps", "cycle", "(II)I"⟩, prog_1_method_41_code, 4, some .int)
theorem co_CM_cycle : CalOK M_CM_cycle 2 := ⟨g_at 848 (by decide +kernel) rfl, g_at 1 (by decide +kernel) rfl, by decide +kernel, by decide +kernel, by decide +kernel⟩
theorem pn_CM_cycle : plainName M_CM_cycle.1.cls = true := by decide +kernel
def M_CM_whole : pM := (⟨"CornerMaps", "whole", "(II)I"⟩, prog_1_method_42_code, 6, some .int)
theorem co_CM_whole : CalOK M_CM_whole 2 := ⟨g_at 852 (by decide +kernel) rfl, g_at 1 (by decide +kernel) rfl, by decide +kernel, by decide +kernel, by decide +kernel⟩
theorem pn_CM_whole : plainName M_CM_whole.1.cls = true := by decide +kernel
def M_CM_inside : pM := (⟨"CornerMaps", "inside", "(II)I"⟩, prog_1_method_43_code, 4, some .int)
theorem co_CM_inside : CalOK M_CM_inside 2 := ⟨g_at 856 (by decide +kernel) rfl, g_at 1 (by decide +kernel) rfl, by decide +kernel, by decide +kernel, by decide +kernel⟩
theorem pn_CM_inside : plainName M_CM_inside.1.cls = true := by decide +kernel
def M_Quad_hasOnSide : pM := (⟨"CornerMaps$Quad", "hasOnSide", "([J)Z"⟩, prog_7_method_9_code, 5, some .boolean)
theorem co_Quad_hasOnSide : CalOK M_Quad_hasOnSide 1 := ⟨g_at 860 (by decide +kernel) rfl, g_at 3 (by decide +kernel) rfl, by decide +kernel, by decide +kernel, by decide +kernel⟩
theorem pn_Quad_hasOnSide : plainName M_Quad_hasOnSide.1.cls = true := by decide +kernel
def M_Quad_surrounds : pM := (⟨"CornerMaps$Quad", "surrounds", "([J)Z"⟩, prog_7_method_11_code, 8, some .boolean)
theorem co_Quad_surrounds : CalOK M_Quad_surrounds 1 := ⟨g_at 871 (by decide +kernel) rfl, g_at 3 (by decide +kernel) rfl, by decide +kernel, by decide +kernel, by decide +kernel⟩
theorem pn_Quad_surrounds : plainName M_Quad_surrounds.1.cls = true := by decide +kernel
def M_Quad_isAmid : pM := (⟨"CornerMaps$Quad", "isAmid", "(JJJJ)Z"⟩, prog_7_method_10_code, 8, some .boolean)
theorem co_Quad_isAmid : CalOK M_Quad_isAmid 4 := ⟨g_at 863 (by decide +kernel) rfl, g_at 3 (by decide +kernel) rfl, by decide +kernel, by decide +kernel, by decide +kernel⟩
theorem pn_Quad_isAmid : plainName M_Quad_isAmid.1.cls = true := by decide +kernel
def M_CM_crossings : pM := (⟨"CornerMaps", "crossings", "(II)I"⟩, prog_1_method_44_code, 6, some .int)
theorem co_CM_crossings : CalOK M_CM_crossings 2 := ⟨g_at 875 (by decide +kernel) rfl, g_at 1 (by decide +kernel) rfl, by decide +kernel, by decide +kernel, by decide +kernel⟩
theorem pn_CM_crossings : plainName M_CM_crossings.1.cls = true := by decide +kernel
def M_Quad_touches : pM := (⟨"CornerMaps$Quad", "touches", "(ILCornerMaps$Quad;I)Z"⟩, prog_7_method_12_code, 12, some .boolean)
theorem co_Quad_touches : CalOK M_Quad_touches 3 := ⟨g_at 879 (by decide +kernel) rfl, g_at 3 (by decide +kernel) rfl, by decide +kernel, by decide +kernel, by decide +kernel⟩
theorem pn_Quad_touches : plainName M_Quad_touches.1.cls = true := by decide +kernel
def M_Quad_overlaps : pM := (⟨"CornerMaps$Quad", "overlaps", "(JJJJ)Z"⟩, prog_7_method_13_code, 8, some .boolean)
theorem co_Quad_overlaps : CalOK M_Quad_overlaps 4 := ⟨g_at 883 (by decide +kernel) rfl, g_at 3 (by decide +kernel) rfl, by decide +kernel, by decide +kernel, by decide +kernel⟩
theorem pn_Quad_overlaps : plainName M_Quad_overlaps.1.cls = true := by decide +kernel
theorem sm_Rows_isFinite : Cond.static M_Rows_isFinite.1 ∈ gtbl := g_at 644 (by decide +kernel) rfl
theorem sm_CM_isTriple : Cond.static M_CM_isTriple.1 ∈ gtbl := g_at 664 (by decide +kernel) rfl
theorem sm_CM_isThird : Cond.static M_CM_isThird.1 ∈ gtbl := g_at 667 (by decide +kernel) rfl
theorem sm_Maps_pullBack : Cond.static M_Maps_pullBack.1 ∈ gtbl := g_at 680 (by decide +kernel) rfl
theorem sm_Maps_cuts : Cond.static M_Maps_cuts.1 ∈ gtbl := g_at 702 (by decide +kernel) rfl
theorem sm_CM_bit : Cond.static M_CM_bit.1 ∈ gtbl := g_at 711 (by decide +kernel) rfl
theorem sm_Maps_height : Cond.static M_Maps_height.1 ∈ gtbl := g_at 705 (by decide +kernel) rfl
theorem sm_Rows_sign : Cond.static M_Rows_sign.1 ∈ gtbl := g_at 708 (by decide +kernel) rfl
theorem sm_Maps_kindOf : Cond.static M_Maps_kindOf.1 ∈ gtbl := g_at 722 (by decide +kernel) rfl
theorem sm_Maps_determinant : Cond.static M_Maps_determinant.1 ∈ gtbl := g_at 731 (by decide +kernel) rfl
theorem sm_Rows_alike : Cond.static M_Rows_alike.1 ∈ gtbl := g_at 738 (by decide +kernel) rfl
theorem sm_Rows_through : Cond.static M_Rows_through.1 ∈ gtbl := g_at 782 (by decide +kernel) rfl
theorem sm_CM_isPart : Cond.static M_CM_isPart.1 ∈ gtbl := g_at 807 (by decide +kernel) rfl
theorem sm_Rows_lowest : Cond.static M_Rows_lowest.1 ∈ gtbl := g_at 826 (by decide +kernel) rfl
theorem sm_Quad_isAmid : Cond.static M_Quad_isAmid.1 ∈ gtbl := g_at 862 (by decide +kernel) rfl
theorem sm_Quad_overlaps : Cond.static M_Quad_overlaps.1 ∈ gtbl := g_at 882 (by decide +kernel) rfl
theorem im_Past_undoLatest : Cond.instanceMethod M_Past_undoLatest.1 ∈ gtbl := g_at 651 (by decide +kernel) rfl
theorem se_Past_undoLatest : Cond.selects M_Past_undoLatest.1.cls M_Past_undoLatest.1 M_Past_undoLatest.1 ∈ gtbl := g_at 652 (by decide +kernel) rfl
theorem im_Plane_returnMap : Cond.instanceMethod M_Plane_returnMap.1 ∈ gtbl := g_at 656 (by decide +kernel) rfl
theorem se_Plane_returnMap : Cond.selects M_Plane_returnMap.1.cls M_Plane_returnMap.1 M_Plane_returnMap.1 ∈ gtbl := g_at 657 (by decide +kernel) rfl
theorem im_Plane_hasPoint : Cond.instanceMethod M_Plane_hasPoint.1 ∈ gtbl := g_at 697 (by decide +kernel) rfl
theorem se_Plane_hasPoint : Cond.selects M_Plane_hasPoint.1.cls M_Plane_hasPoint.1 M_Plane_hasPoint.1 ∈ gtbl := g_at 698 (by decide +kernel) rfl
theorem im_CM_doCommute : Cond.instanceMethod M_CM_doCommute.1 ∈ gtbl := g_at 750 (by decide +kernel) rfl
theorem se_CM_doCommute : Cond.selects M_CM_doCommute.1.cls M_CM_doCommute.1 M_CM_doCommute.1 ∈ gtbl := g_sel 18 (by decide +kernel) rfl
theorem im_CM_areInverse : Cond.instanceMethod M_CM_areInverse.1 ∈ gtbl := g_at 758 (by decide +kernel) rfl
theorem se_CM_areInverse : Cond.selects M_CM_areInverse.1.cls M_CM_areInverse.1 M_CM_areInverse.1 ∈ gtbl := g_sel 19 (by decide +kernel) rfl
theorem im_CM_isKept : Cond.instanceMethod M_CM_isKept.1 ∈ gtbl := g_at 766 (by decide +kernel) rfl
theorem se_CM_isKept : Cond.selects M_CM_isKept.1.cls M_CM_isKept.1 M_CM_isKept.1 ∈ gtbl := g_sel 20 (by decide +kernel) rfl
theorem im_CM_isOfSort : Cond.instanceMethod M_CM_isOfSort.1 ∈ gtbl := g_at 774 (by decide +kernel) rfl
theorem se_CM_isOfSort : Cond.selects M_CM_isOfSort.1.cls M_CM_isOfSort.1 M_CM_isOfSort.1 ∈ gtbl := g_sel 21 (by decide +kernel) rfl
theorem im_CM_areInLine : Cond.instanceMethod M_CM_areInLine.1 ∈ gtbl := g_at 791 (by decide +kernel) rfl
theorem se_CM_areInLine : Cond.selects M_CM_areInLine.1.cls M_CM_areInLine.1 M_CM_areInLine.1 ∈ gtbl := g_sel 22 (by decide +kernel) rfl
theorem im_CM_arePoints : Cond.instanceMethod M_CM_arePoints.1 ∈ gtbl := g_at 800 (by decide +kernel) rfl
theorem se_CM_arePoints : Cond.selects M_CM_arePoints.1.cls M_CM_arePoints.1 M_CM_arePoints.1 ∈ gtbl := g_sel 23 (by decide +kernel) rfl
theorem im_CM_hasThreeAlike : Cond.instanceMethod M_CM_hasThreeAlike.1 ∈ gtbl := g_at 811 (by decide +kernel) rfl
theorem se_CM_hasThreeAlike : Cond.selects M_CM_hasThreeAlike.1.cls M_CM_hasThreeAlike.1 M_CM_hasThreeAlike.1 ∈ gtbl := g_sel 24 (by decide +kernel) rfl
theorem im_CM_axisOutside : Cond.instanceMethod M_CM_axisOutside.1 ∈ gtbl := g_at 819 (by decide +kernel) rfl
theorem se_CM_axisOutside : Cond.selects M_CM_axisOutside.1.cls M_CM_axisOutside.1 M_CM_axisOutside.1 ∈ gtbl := g_sel 26 (by decide +kernel) rfl
theorem im_CM_span : Cond.instanceMethod M_CM_span.1 ∈ gtbl := g_at 823 (by decide +kernel) rfl
theorem se_CM_span : Cond.selects M_CM_span.1.cls M_CM_span.1 M_CM_span.1 ∈ gtbl := g_sel 27 (by decide +kernel) rfl
theorem im_CM_areAlike : Cond.instanceMethod M_CM_areAlike.1 ∈ gtbl := g_at 815 (by decide +kernel) rfl
theorem se_CM_areAlike : Cond.selects M_CM_areAlike.1.cls M_CM_areAlike.1 M_CM_areAlike.1 ∈ gtbl := g_sel 25 (by decide +kernel) rfl
theorem im_CM_follow : Cond.instanceMethod M_CM_follow.1 ∈ gtbl := g_at 839 (by decide +kernel) rfl
theorem se_CM_follow : Cond.selects M_CM_follow.1.cls M_CM_follow.1 M_CM_follow.1 ∈ gtbl := g_sel 28 (by decide +kernel) rfl
theorem im_CM_stepOn : Cond.instanceMethod M_CM_stepOn.1 ∈ gtbl := g_at 843 (by decide +kernel) rfl
theorem se_CM_stepOn : Cond.selects M_CM_stepOn.1.cls M_CM_stepOn.1 M_CM_stepOn.1 ∈ gtbl := g_sel 29 (by decide +kernel) rfl
theorem im_Quad_hasOnSide : Cond.instanceMethod M_Quad_hasOnSide.1 ∈ gtbl := g_at 858 (by decide +kernel) rfl
theorem se_Quad_hasOnSide : Cond.selects M_Quad_hasOnSide.1.cls M_Quad_hasOnSide.1 M_Quad_hasOnSide.1 ∈ gtbl := g_at 859 (by decide +kernel) rfl
theorem im_Quad_surrounds : Cond.instanceMethod M_Quad_surrounds.1 ∈ gtbl := g_at 869 (by decide +kernel) rfl
theorem se_Quad_surrounds : Cond.selects M_Quad_surrounds.1.cls M_Quad_surrounds.1 M_Quad_surrounds.1 ∈ gtbl := g_at 870 (by decide +kernel) rfl
theorem im_Quad_touches : Cond.instanceMethod M_Quad_touches.1 ∈ gtbl := g_at 877 (by decide +kernel) rfl
theorem se_Quad_touches : Cond.selects M_Quad_touches.1.cls M_Quad_touches.1 M_Quad_touches.1 ∈ gtbl := g_at 878 (by decide +kernel) rfl
theorem L_Past_37 : Cond.methodLink "CornerMaps$Past" 37 ⟨"java/lang/System", "arraycopy", "(Ljava/lang/Object;ILjava/lang/Object;II)V"⟩ ∈ gtbl := g_at 638 (by decide +kernel) rfl
theorem L_Plane_53 : Cond.methodLink "CornerMaps$Plane" 53 ⟨"CornerMaps$Rows", "isFinite", "([J)Z"⟩ ∈ gtbl := g_at 643 (by decide +kernel) rfl
theorem L_CM_260 : Cond.fieldLinkNest "CornerMaps" 260 "CornerMaps$Past" "count" "I" "CornerMaps" ∈ ntbl := nt_at 201 (by decide +kernel) rfl
theorem L_CM_263 : Cond.methodLink "CornerMaps" 263 ⟨"CornerMaps$Past", "undoLatest", "(LCornerMaps$Plane;)V"⟩ ∈ gtbl := g_at 650 (by decide +kernel) rfl
theorem L_Past_46 : Cond.fieldLinkNest "CornerMaps$Past" 46 "CornerMaps$Plane" "mapCount" "I" "CornerMaps" ∈ ntbl := nt_at 82 (by decide +kernel) rfl
theorem L_Past_51 : Cond.methodLink "CornerMaps$Past" 51 ⟨"CornerMaps$Plane", "removeMap", "(I)V"⟩ ∈ gtbl := g_at 654 (by decide +kernel) rfl
theorem L_Past_55 : Cond.methodLink "CornerMaps$Past" 55 ⟨"CornerMaps$Plane", "returnMap", "(I[J)V"⟩ ∈ gtbl := g_at 655 (by decide +kernel) rfl
theorem L_Past_59 : Cond.fieldLinkNest "CornerMaps$Past" 59 "CornerMaps$Plane" "pointCount" "I" "CornerMaps" ∈ ntbl := nt_at 86 (by decide +kernel) rfl
theorem L_Past_62 : Cond.fieldLinkNest "CornerMaps$Past" 62 "CornerMaps$Plane" "points" "[[J" "CornerMaps" ∈ ntbl := nt_at 72 (by decide +kernel) rfl
theorem L_CM_267 : Cond.methodLink "CornerMaps" 267 ⟨"CornerMaps", "isTriple", "(III)Z"⟩ ∈ gtbl := g_at 663 (by decide +kernel) rfl
theorem L_CM_154 : Cond.methodLink "CornerMaps" 154 ⟨"CornerMaps", "isThird", "(I)Z"⟩ ∈ gtbl := g_at 666 (by decide +kernel) rfl
theorem L_CM_270 : Cond.constantLong "CornerMaps" 270 (-9223372036854775808 : Int64) ∈ gtbl := g_at 669 (by decide +kernel) rfl
theorem L_CM_275 : Cond.constantLong "CornerMaps" 275 (-100000000000 : Int64) ∈ gtbl := g_at 674 (by decide +kernel) rfl
theorem L_CM_277 : Cond.methodLink "CornerMaps" 277 ⟨"CornerMaps$Maps", "pullBack", "([J[J[J)V"⟩ ∈ gtbl := g_at 679 (by decide +kernel) rfl
theorem L_CM_280 : Cond.fieldLink "CornerMaps" 280 "CornerMaps" "FAR_LINE" "[J" ∈ gtbl := g_at 686 (by decide +kernel) rfl
theorem L_CM_160 : Cond.methodLink "CornerMaps" 160 ⟨"CornerMaps$Plane", "hasPoint", "(I)Z"⟩ ∈ gtbl := g_at 696 (by decide +kernel) rfl
theorem L_CM_283 : Cond.methodLink "CornerMaps" 283 ⟨"CornerMaps$Rows", "isFinite", "([J)Z"⟩ ∈ gtbl := g_at 700 (by decide +kernel) rfl
theorem L_CM_286 : Cond.methodLink "CornerMaps" 286 ⟨"CornerMaps$Maps", "cuts", "([J[J[J)Z"⟩ ∈ gtbl := g_at 701 (by decide +kernel) rfl
theorem L_CM_290 : Cond.methodLink "CornerMaps" 290 ⟨"CornerMaps", "bit", "(Z)I"⟩ ∈ gtbl := g_at 710 (by decide +kernel) rfl
theorem L_Maps_21 : Cond.methodLink "CornerMaps$Maps" 21 ⟨"CornerMaps$Maps", "height", "([J[J)J"⟩ ∈ gtbl := g_at 704 (by decide +kernel) rfl
theorem L_Maps_27 : Cond.methodLink "CornerMaps$Maps" 27 ⟨"CornerMaps$Rows", "sign", "(J)I"⟩ ∈ gtbl := g_at 707 (by decide +kernel) rfl
theorem L_CM_146 : Cond.fieldLinkNest "CornerMaps" 146 "CornerMaps$Quad" "corners" "[[J" "CornerMaps" ∈ ntbl := nt_at 59 (by decide +kernel) rfl
theorem L_CM_294 : Cond.methodLink "CornerMaps" 294 ⟨"CornerMaps$Maps", "kindOf", "([J)I"⟩ ∈ gtbl := g_at 721 (by decide +kernel) rfl
theorem L_CM_297 : Cond.methodLink "CornerMaps" 297 ⟨"CornerMaps$Rows", "greatest", "([J)J"⟩ ∈ gtbl := g_at 728 (by decide +kernel) rfl
theorem L_CM_301 : Cond.constantLong "CornerMaps" 301 (1000000 : Int64) ∈ gtbl := g_at 729 (by decide +kernel) rfl
theorem L_CM_303 : Cond.methodLink "CornerMaps" 303 ⟨"CornerMaps$Maps", "determinant", "([J)J"⟩ ∈ gtbl := g_at 730 (by decide +kernel) rfl
theorem L_CM_306 : Cond.methodLink "CornerMaps" 306 ⟨"CornerMaps$Rows", "alike", "([J[J)Z"⟩ ∈ gtbl := g_at 737 (by decide +kernel) rfl
theorem L_CM_310 : Cond.methodLink "CornerMaps" 310 ⟨"CornerMaps", "doCommute", "(II)Z"⟩ ∈ gtbl := g_at 748 (by decide +kernel) rfl
theorem L_CM_314 : Cond.methodLink "CornerMaps" 314 ⟨"CornerMaps", "areInverse", "(II)Z"⟩ ∈ gtbl := g_at 756 (by decide +kernel) rfl
theorem L_CM_317 : Cond.methodLink "CornerMaps" 317 ⟨"CornerMaps", "isKept", "([J[J)Z"⟩ ∈ gtbl := g_at 764 (by decide +kernel) rfl
theorem L_CM_320 : Cond.methodLink "CornerMaps" 320 ⟨"CornerMaps", "isOfSort", "([J[JI)Z"⟩ ∈ gtbl := g_at 772 (by decide +kernel) rfl
theorem L_CM_375 : Cond.methodLink "CornerMaps" 375 ⟨"CornerMaps$Maps", "height", "([J[J)J"⟩ ∈ gtbl := g_at 776 (by decide +kernel) rfl
theorem L_CM_324 : Cond.methodLink "CornerMaps" 324 ⟨"CornerMaps$Rows", "through", "([J[J[J)Z"⟩ ∈ gtbl := g_at 781 (by decide +kernel) rfl
theorem L_Rows_44 : Cond.methodLink "CornerMaps$Rows" 44 ⟨"CornerMaps$Rows", "reduce", "([J)V"⟩ ∈ gtbl := g_at 784 (by decide +kernel) rfl
theorem L_CM_327 : Cond.methodLink "CornerMaps" 327 ⟨"CornerMaps", "areInLine", "(III)Z"⟩ ∈ gtbl := g_at 789 (by decide +kernel) rfl
theorem L_CM_401 : Cond.methodLink "CornerMaps" 401 ⟨"CornerMaps$Rows", "determinant", "([J[J[J)J"⟩ ∈ gtbl := g_at 793 (by decide +kernel) rfl
theorem L_CM_330 : Cond.methodLink "CornerMaps" 330 ⟨"CornerMaps", "arePoints", "(IIII)Z"⟩ ∈ gtbl := g_at 798 (by decide +kernel) rfl
theorem L_CM_136 : Cond.methodLink "CornerMaps" 136 ⟨"CornerMaps", "isPart", "(I)Z"⟩ ∈ gtbl := g_at 806 (by decide +kernel) rfl
theorem L_CM_334 : Cond.methodLink "CornerMaps" 334 ⟨"CornerMaps", "hasThreeAlike", "(IIII)Z"⟩ ∈ gtbl := g_at 809 (by decide +kernel) rfl
theorem L_CM_337 : Cond.methodLink "CornerMaps" 337 ⟨"CornerMaps", "axisOutside", "(III)I"⟩ ∈ gtbl := g_at 817 (by decide +kernel) rfl
theorem L_CM_341 : Cond.methodLink "CornerMaps" 341 ⟨"CornerMaps", "span", "(III)J"⟩ ∈ gtbl := g_at 821 (by decide +kernel) rfl
theorem L_CM_345 : Cond.methodLink "CornerMaps" 345 ⟨"CornerMaps$Rows", "lowest", "(JJI)J"⟩ ∈ gtbl := g_at 825 (by decide +kernel) rfl
theorem L_CM_349 : Cond.methodLink "CornerMaps" 349 ⟨"CornerMaps", "areAlike", "(II)Z"⟩ ∈ gtbl := g_at 813 (by decide +kernel) rfl
theorem L_CM_352 : Cond.methodLink "CornerMaps" 352 ⟨"CornerMaps$Rows", "reduce", "([J)V"⟩ ∈ gtbl := g_at 832 (by decide +kernel) rfl
theorem L_CM_355 : Cond.methodLink "CornerMaps" 355 ⟨"CornerMaps", "follow", "(III)Z"⟩ ∈ gtbl := g_at 837 (by decide +kernel) rfl
theorem L_CM_358 : Cond.methodLink "CornerMaps" 358 ⟨"CornerMaps", "stepOn", "(I)Z"⟩ ∈ gtbl := g_at 841 (by decide +kernel) rfl
theorem L_CM_361 : Cond.methodLink "CornerMaps" 361 ⟨"CornerMaps$Quad", "hasOnSide", "([J)Z"⟩ ∈ gtbl := g_at 857 (by decide +kernel) rfl
theorem L_CM_364 : Cond.methodLink "CornerMaps" 364 ⟨"CornerMaps$Quad", "surrounds", "([J)Z"⟩ ∈ gtbl := g_at 868 (by decide +kernel) rfl
theorem L_Quad_46 : Cond.methodLink "CornerMaps$Quad" 46 ⟨"CornerMaps$Quad", "isAmid", "(JJJJ)Z"⟩ ∈ gtbl := g_at 861 (by decide +kernel) rfl
theorem L_Quad_50 : Cond.methodLink "CornerMaps$Quad" 50 ⟨"java/lang/Math", "min", "(JJ)J"⟩ ∈ gtbl := g_at 864 (by decide +kernel) rfl
theorem L_Quad_56 : Cond.methodLink "CornerMaps$Quad" 56 ⟨"java/lang/Math", "max", "(JJ)J"⟩ ∈ gtbl := g_at 867 (by decide +kernel) rfl
theorem L_CM_367 : Cond.methodLink "CornerMaps" 367 ⟨"CornerMaps$Quad", "touches", "(ILCornerMaps$Quad;I)Z"⟩ ∈ gtbl := g_at 876 (by decide +kernel) rfl
theorem L_Quad_26 : Cond.methodLink "CornerMaps$Quad" 26 ⟨"CornerMaps$Rows", "sign", "(J)I"⟩ ∈ gtbl := g_at 880 (by decide +kernel) rfl
theorem L_Quad_59 : Cond.methodLink "CornerMaps$Quad" 59 ⟨"CornerMaps$Quad", "overlaps", "(JJJJ)Z"⟩ ∈ gtbl := g_at 881 (by decide +kernel) rfl
theorem F_Past_moved_0 : Jvm.Free.DS.Facts prog_5_method_6_code 0 [(.aload_n 0, 1), (.invokevirtual 27, 3), (.istore_n 2, 1), (.aload_n 0, 1), (.getfield 9, 3), (.iload_n 2, 1), (.iconst 3, 1), (.iastore, 1), (.iconst 0, 1), (.istore_n 3, 1), (.iload_n 3, 1), (.bipush (8), 2), (.if_icmp .ge (26), 3), (.aload_n 1, 1), (.iload_n 3, 1), (.aaload, 1), (.iconst 0, 1), (.aload_n 0, 1), (.getfield 20, 3), (.iload_n 2, 1), (.aaload, 1), (.iconst 3, 1), (.iload_n 3, 1), (.imul, 1), (.iconst 3, 1), (.invokestatic 37, 3), (.iinc 3 (1), 3), (.goto (-26), 3), (.return_, 1)] := Jvm.Free.DS.facts 0 _ (by decide +kernel) (by decide +kernel)
theorem d_Past_moved_0 : decode prog_5_method_6_code 0 = .ok (.aload_n 0, 1) := F_Past_moved_0.1
theorem d_Past_moved_1 : decode prog_5_method_6_code 1 = .ok (.invokevirtual 27, 3) := F_Past_moved_0.2.1
theorem d_Past_moved_4 : decode prog_5_method_6_code 4 = .ok (.istore_n 2, 1) := F_Past_moved_0.2.2.1
theorem d_Past_moved_5 : decode prog_5_method_6_code 5 = .ok (.aload_n 0, 1) := F_Past_moved_0.2.2.2.1
theorem d_Past_moved_6 : decode prog_5_method_6_code 6 = .ok (.getfield 9, 3) := F_Past_moved_0.2.2.2.2.1
theorem d_Past_moved_9 : decode prog_5_method_6_code 9 = .ok (.iload_n 2, 1) := F_Past_moved_0.2.2.2.2.2.1
theorem d_Past_moved_10 : decode prog_5_method_6_code 10 = .ok (.iconst 3, 1) := F_Past_moved_0.2.2.2.2.2.2.1
theorem d_Past_moved_11 : decode prog_5_method_6_code 11 = .ok (.iastore, 1) := F_Past_moved_0.2.2.2.2.2.2.2.1
theorem d_Past_moved_12 : decode prog_5_method_6_code 12 = .ok (.iconst 0, 1) := F_Past_moved_0.2.2.2.2.2.2.2.2.1
theorem d_Past_moved_13 : decode prog_5_method_6_code 13 = .ok (.istore_n 3, 1) := F_Past_moved_0.2.2.2.2.2.2.2.2.2.1
theorem d_Past_moved_14 : decode prog_5_method_6_code 14 = .ok (.iload_n 3, 1) := F_Past_moved_0.2.2.2.2.2.2.2.2.2.2.1
theorem d_Past_moved_15 : decode prog_5_method_6_code 15 = .ok (.bipush (8), 2) := F_Past_moved_0.2.2.2.2.2.2.2.2.2.2.2.1
theorem d_Past_moved_17 : decode prog_5_method_6_code 17 = .ok (.if_icmp .ge (26), 3) := F_Past_moved_0.2.2.2.2.2.2.2.2.2.2.2.2.1
theorem d_Past_moved_20 : decode prog_5_method_6_code 20 = .ok (.aload_n 1, 1) := F_Past_moved_0.2.2.2.2.2.2.2.2.2.2.2.2.2.1
theorem d_Past_moved_21 : decode prog_5_method_6_code 21 = .ok (.iload_n 3, 1) := F_Past_moved_0.2.2.2.2.2.2.2.2.2.2.2.2.2.2.1
theorem d_Past_moved_22 : decode prog_5_method_6_code 22 = .ok (.aaload, 1) := F_Past_moved_0.2.2.2.2.2.2.2.2.2.2.2.2.2.2.2.1
theorem d_Past_moved_23 : decode prog_5_method_6_code 23 = .ok (.iconst 0, 1) := F_Past_moved_0.2.2.2.2.2.2.2.2.2.2.2.2.2.2.2.2.1
theorem d_Past_moved_24 : decode prog_5_method_6_code 24 = .ok (.aload_n 0, 1) := F_Past_moved_0.2.2.2.2.2.2.2.2.2.2.2.2.2.2.2.2.2.1
theorem d_Past_moved_25 : decode prog_5_method_6_code 25 = .ok (.getfield 20, 3) := F_Past_moved_0.2.2.2.2.2.2.2.2.2.2.2.2.2.2.2.2.2.2.1
theorem d_Past_moved_28 : decode prog_5_method_6_code 28 = .ok (.iload_n 2, 1) := F_Past_moved_0.2.2.2.2.2.2.2.2.2.2.2.2.2.2.2.2.2.2.2.1
theorem d_Past_moved_29 : decode prog_5_method_6_code 29 = .ok (.aaload, 1) := F_Past_moved_0.2.2.2.2.2.2.2.2.2.2.2.2.2.2.2.2.2.2.2.2.1
theorem d_Past_moved_30 : decode prog_5_method_6_code 30 = .ok (.iconst 3, 1) := F_Past_moved_0.2.2.2.2.2.2.2.2.2.2.2.2.2.2.2.2.2.2.2.2.2.1
theorem d_Past_moved_31 : decode prog_5_method_6_code 31 = .ok (.iload_n 3, 1) := F_Past_moved_0.2.2.2.2.2.2.2.2.2.2.2.2.2.2.2.2.2.2.2.2.2.2.1
theorem d_Past_moved_32 : decode prog_5_method_6_code 32 = .ok (.imul, 1) := F_Past_moved_0.2.2.2.2.2.2.2.2.2.2.2.2.2.2.2.2.2.2.2.2.2.2.2.1
theorem d_Past_moved_33 : decode prog_5_method_6_code 33 = .ok (.iconst 3, 1) := F_Past_moved_0.2.2.2.2.2.2.2.2.2.2.2.2.2.2.2.2.2.2.2.2.2.2.2.2.1
theorem d_Past_moved_34 : decode prog_5_method_6_code 34 = .ok (.invokestatic 37, 3) := F_Past_moved_0.2.2.2.2.2.2.2.2.2.2.2.2.2.2.2.2.2.2.2.2.2.2.2.2.2.1
theorem d_Past_moved_37 : decode prog_5_method_6_code 37 = .ok (.iinc 3 (1), 3) := F_Past_moved_0.2.2.2.2.2.2.2.2.2.2.2.2.2.2.2.2.2.2.2.2.2.2.2.2.2.2.1
theorem d_Past_moved_40 : decode prog_5_method_6_code 40 = .ok (.goto (-26), 3) := F_Past_moved_0.2.2.2.2.2.2.2.2.2.2.2.2.2.2.2.2.2.2.2.2.2.2.2.2.2.2.2.1
theorem d_Past_moved_43 : decode prog_5_method_6_code 43 = .ok (.return_, 1) := F_Past_moved_0.2.2.2.2.2.2.2.2.2.2.2.2.2.2.2.2.2.2.2.2.2.2.2.2.2.2.2.2.1
theorem F_Plane_finitePoints_0 : Jvm.Free.DS.Facts prog_6_method_10_code 0 [(.iconst 0, 1), (.istore_n 1, 1), (.iconst 0, 1), (.istore_n 2, 1), (.iload_n 2, 1), (.aload_n 0, 1), (.getfield 36, 3), (.if_icmp .ge (24), 3), (.aload_n 0, 1), (.getfield 22, 3), (.iload_n 2, 1), (.aaload, 1), (.invokestatic 53, 3), (.ifCond .eq (6), 3), (.iinc 1 (1), 3), (.iinc 2 (1), 3), (.goto (-26), 3), (.iload_n 1, 1), (.ireturn, 1)] := Jvm.Free.DS.facts 0 _ (by decide +kernel) (by decide +kernel)
theorem d_Plane_finitePoints_0 : decode prog_6_method_10_code 0 = .ok (.iconst 0, 1) := F_Plane_finitePoints_0.1
theorem d_Plane_finitePoints_1 : decode prog_6_method_10_code 1 = .ok (.istore_n 1, 1) := F_Plane_finitePoints_0.2.1
theorem d_Plane_finitePoints_2 : decode prog_6_method_10_code 2 = .ok (.iconst 0, 1) := F_Plane_finitePoints_0.2.2.1
theorem d_Plane_finitePoints_3 : decode prog_6_method_10_code 3 = .ok (.istore_n 2, 1) := F_Plane_finitePoints_0.2.2.2.1
theorem d_Plane_finitePoints_4 : decode prog_6_method_10_code 4 = .ok (.iload_n 2, 1) := F_Plane_finitePoints_0.2.2.2.2.1
theorem d_Plane_finitePoints_5 : decode prog_6_method_10_code 5 = .ok (.aload_n 0, 1) := F_Plane_finitePoints_0.2.2.2.2.2.1
theorem d_Plane_finitePoints_6 : decode prog_6_method_10_code 6 = .ok (.getfield 36, 3) := F_Plane_finitePoints_0.2.2.2.2.2.2.1
theorem d_Plane_finitePoints_9 : decode prog_6_method_10_code 9 = .ok (.if_icmp .ge (24), 3) := F_Plane_finitePoints_0.2.2.2.2.2.2.2.1
theorem d_Plane_finitePoints_12 : decode prog_6_method_10_code 12 = .ok (.aload_n 0, 1) := F_Plane_finitePoints_0.2.2.2.2.2.2.2.2.1
theorem d_Plane_finitePoints_13 : decode prog_6_method_10_code 13 = .ok (.getfield 22, 3) := F_Plane_finitePoints_0.2.2.2.2.2.2.2.2.2.1
theorem d_Plane_finitePoints_16 : decode prog_6_method_10_code 16 = .ok (.iload_n 2, 1) := F_Plane_finitePoints_0.2.2.2.2.2.2.2.2.2.2.1
theorem d_Plane_finitePoints_17 : decode prog_6_method_10_code 17 = .ok (.aaload, 1) := F_Plane_finitePoints_0.2.2.2.2.2.2.2.2.2.2.2.1
theorem d_Plane_finitePoints_18 : decode prog_6_method_10_code 18 = .ok (.invokestatic 53, 3) := F_Plane_finitePoints_0.2.2.2.2.2.2.2.2.2.2.2.2.1
theorem d_Plane_finitePoints_21 : decode prog_6_method_10_code 21 = .ok (.ifCond .eq (6), 3) := F_Plane_finitePoints_0.2.2.2.2.2.2.2.2.2.2.2.2.2.1
theorem d_Plane_finitePoints_24 : decode prog_6_method_10_code 24 = .ok (.iinc 1 (1), 3) := F_Plane_finitePoints_0.2.2.2.2.2.2.2.2.2.2.2.2.2.2.1
theorem d_Plane_finitePoints_27 : decode prog_6_method_10_code 27 = .ok (.iinc 2 (1), 3) := F_Plane_finitePoints_0.2.2.2.2.2.2.2.2.2.2.2.2.2.2.2.1
theorem d_Plane_finitePoints_30 : decode prog_6_method_10_code 30 = .ok (.goto (-26), 3) := F_Plane_finitePoints_0.2.2.2.2.2.2.2.2.2.2.2.2.2.2.2.2.1
theorem d_Plane_finitePoints_33 : decode prog_6_method_10_code 33 = .ok (.iload_n 1, 1) := F_Plane_finitePoints_0.2.2.2.2.2.2.2.2.2.2.2.2.2.2.2.2.2.1
theorem d_Plane_finitePoints_34 : decode prog_6_method_10_code 34 = .ok (.ireturn, 1) := F_Plane_finitePoints_0.2.2.2.2.2.2.2.2.2.2.2.2.2.2.2.2.2.2.1
theorem F_Rows_isFinite_0 : Jvm.Free.DS.Facts prog_9_method_13_code 0 [(.aload_n 0, 1), (.iconst 2, 1), (.laload, 1), (.lconst 0, 1), (.lcmp, 1), (.ifCond .eq (7), 3), (.iconst 1, 1), (.goto (4), 3), (.iconst 0, 1), (.ireturn, 1)] := Jvm.Free.DS.facts 0 _ (by decide +kernel) (by decide +kernel)
theorem d_Rows_isFinite_0 : decode prog_9_method_13_code 0 = .ok (.aload_n 0, 1) := F_Rows_isFinite_0.1
theorem d_Rows_isFinite_1 : decode prog_9_method_13_code 1 = .ok (.iconst 2, 1) := F_Rows_isFinite_0.2.1
theorem d_Rows_isFinite_2 : decode prog_9_method_13_code 2 = .ok (.laload, 1) := F_Rows_isFinite_0.2.2.1
theorem d_Rows_isFinite_3 : decode prog_9_method_13_code 3 = .ok (.lconst 0, 1) := F_Rows_isFinite_0.2.2.2.1
theorem d_Rows_isFinite_4 : decode prog_9_method_13_code 4 = .ok (.lcmp, 1) := F_Rows_isFinite_0.2.2.2.2.1
theorem d_Rows_isFinite_5 : decode prog_9_method_13_code 5 = .ok (.ifCond .eq (7), 3) := F_Rows_isFinite_0.2.2.2.2.2.1
theorem d_Rows_isFinite_8 : decode prog_9_method_13_code 8 = .ok (.iconst 1, 1) := F_Rows_isFinite_0.2.2.2.2.2.2.1
theorem d_Rows_isFinite_9 : decode prog_9_method_13_code 9 = .ok (.goto (4), 3) := F_Rows_isFinite_0.2.2.2.2.2.2.2.1
theorem d_Rows_isFinite_12 : decode prog_9_method_13_code 12 = .ok (.iconst 0, 1) := F_Rows_isFinite_0.2.2.2.2.2.2.2.2.1
theorem d_Rows_isFinite_13 : decode prog_9_method_13_code 13 = .ok (.ireturn, 1) := F_Rows_isFinite_0.2.2.2.2.2.2.2.2.2.1
theorem F_CM_undo_0 : Jvm.Free.DS.Facts prog_1_method_19_code 0 [(.aload_n 0, 1), (.getfield 47, 3), (.getfield 260, 3), (.ifCond .ne (5), 3), (.iconst (-1), 1), (.ireturn, 1), (.aload_n 0, 1), (.getfield 47, 3), (.aload_n 0, 1), (.getfield 12, 3), (.invokevirtual 263, 3), (.aload_n 0, 1), (.getfield 47, 3), (.getfield 260, 3), (.ireturn, 1)] := Jvm.Free.DS.facts 0 _ (by decide +kernel) (by decide +kernel)
theorem d_CM_undo_0 : decode prog_1_method_19_code 0 = .ok (.aload_n 0, 1) := F_CM_undo_0.1
theorem d_CM_undo_1 : decode prog_1_method_19_code 1 = .ok (.getfield 47, 3) := F_CM_undo_0.2.1
theorem d_CM_undo_4 : decode prog_1_method_19_code 4 = .ok (.getfield 260, 3) := F_CM_undo_0.2.2.1
theorem d_CM_undo_7 : decode prog_1_method_19_code 7 = .ok (.ifCond .ne (5), 3) := F_CM_undo_0.2.2.2.1
theorem d_CM_undo_10 : decode prog_1_method_19_code 10 = .ok (.iconst (-1), 1) := F_CM_undo_0.2.2.2.2.1
theorem d_CM_undo_11 : decode prog_1_method_19_code 11 = .ok (.ireturn, 1) := F_CM_undo_0.2.2.2.2.2.1
theorem d_CM_undo_12 : decode prog_1_method_19_code 12 = .ok (.aload_n 0, 1) := F_CM_undo_0.2.2.2.2.2.2.1
theorem d_CM_undo_13 : decode prog_1_method_19_code 13 = .ok (.getfield 47, 3) := F_CM_undo_0.2.2.2.2.2.2.2.1
theorem d_CM_undo_16 : decode prog_1_method_19_code 16 = .ok (.aload_n 0, 1) := F_CM_undo_0.2.2.2.2.2.2.2.2.1
theorem d_CM_undo_17 : decode prog_1_method_19_code 17 = .ok (.getfield 12, 3) := F_CM_undo_0.2.2.2.2.2.2.2.2.2.1
theorem d_CM_undo_20 : decode prog_1_method_19_code 20 = .ok (.invokevirtual 263, 3) := F_CM_undo_0.2.2.2.2.2.2.2.2.2.2.1
theorem d_CM_undo_23 : decode prog_1_method_19_code 23 = .ok (.aload_n 0, 1) := F_CM_undo_0.2.2.2.2.2.2.2.2.2.2.2.1
theorem d_CM_undo_24 : decode prog_1_method_19_code 24 = .ok (.getfield 47, 3) := F_CM_undo_0.2.2.2.2.2.2.2.2.2.2.2.2.1
theorem d_CM_undo_27 : decode prog_1_method_19_code 27 = .ok (.getfield 260, 3) := F_CM_undo_0.2.2.2.2.2.2.2.2.2.2.2.2.2.1
theorem d_CM_undo_30 : decode prog_1_method_19_code 30 = .ok (.ireturn, 1) := F_CM_undo_0.2.2.2.2.2.2.2.2.2.2.2.2.2.2.1
theorem F_Past_undoLatest_0 : Jvm.Free.DS.Facts prog_5_method_8_code 0 [(.aload_n 0, 1), (.getfield 23, 3), (.ifCond .ne (4), 3), (.return_, 1), (.aload_n 0, 1), (.dup, 1), (.getfield 23, 3), (.iconst 1, 1), (.isub, 1), (.putfield 23, 3), (.aload_n 0, 1), (.getfield 43, 3), (.aload_n 0, 1), (.getfield 23, 3), (.iadd, 1), (.bipush (16), 2), (.irem, 1), (.istore_n 2, 1), (.aload_n 0, 1), (.getfield 9, 3), (.iload_n 2, 1), (.iaload, 1)] := Jvm.Free.DS.facts 0 _ (by decide +kernel) (by decide +kernel)
theorem d_Past_undoLatest_0 : decode prog_5_method_8_code 0 = .ok (.aload_n 0, 1) := F_Past_undoLatest_0.1
theorem d_Past_undoLatest_1 : decode prog_5_method_8_code 1 = .ok (.getfield 23, 3) := F_Past_undoLatest_0.2.1
theorem d_Past_undoLatest_4 : decode prog_5_method_8_code 4 = .ok (.ifCond .ne (4), 3) := F_Past_undoLatest_0.2.2.1
theorem d_Past_undoLatest_7 : decode prog_5_method_8_code 7 = .ok (.return_, 1) := F_Past_undoLatest_0.2.2.2.1
theorem d_Past_undoLatest_8 : decode prog_5_method_8_code 8 = .ok (.aload_n 0, 1) := F_Past_undoLatest_0.2.2.2.2.1
theorem d_Past_undoLatest_9 : decode prog_5_method_8_code 9 = .ok (.dup, 1) := F_Past_undoLatest_0.2.2.2.2.2.1
theorem d_Past_undoLatest_10 : decode prog_5_method_8_code 10 = .ok (.getfield 23, 3) := F_Past_undoLatest_0.2.2.2.2.2.2.1
theorem d_Past_undoLatest_13 : decode prog_5_method_8_code 13 = .ok (.iconst 1, 1) := F_Past_undoLatest_0.2.2.2.2.2.2.2.1
theorem d_Past_undoLatest_14 : decode prog_5_method_8_code 14 = .ok (.isub, 1) := F_Past_undoLatest_0.2.2.2.2.2.2.2.2.1
theorem d_Past_undoLatest_15 : decode prog_5_method_8_code 15 = .ok (.putfield 23, 3) := F_Past_undoLatest_0.2.2.2.2.2.2.2.2.2.1
theorem d_Past_undoLatest_18 : decode prog_5_method_8_code 18 = .ok (.aload_n 0, 1) := F_Past_undoLatest_0.2.2.2.2.2.2.2.2.2.2.1
theorem d_Past_undoLatest_19 : decode prog_5_method_8_code 19 = .ok (.getfield 43, 3) := F_Past_undoLatest_0.2.2.2.2.2.2.2.2.2.2.2.1
theorem d_Past_undoLatest_22 : decode prog_5_method_8_code 22 = .ok (.aload_n 0, 1) := F_Past_undoLatest_0.2.2.2.2.2.2.2.2.2.2.2.2.1
theorem d_Past_undoLatest_23 : decode prog_5_method_8_code 23 = .ok (.getfield 23, 3) := F_Past_undoLatest_0.2.2.2.2.2.2.2.2.2.2.2.2.2.1
theorem d_Past_undoLatest_26 : decode prog_5_method_8_code 26 = .ok (.iadd, 1) := F_Past_undoLatest_0.2.2.2.2.2.2.2.2.2.2.2.2.2.2.1
theorem d_Past_undoLatest_27 : decode prog_5_method_8_code 27 = .ok (.bipush (16), 2) := F_Past_undoLatest_0.2.2.2.2.2.2.2.2.2.2.2.2.2.2.2.1
theorem d_Past_undoLatest_29 : decode prog_5_method_8_code 29 = .ok (.irem, 1) := F_Past_undoLatest_0.2.2.2.2.2.2.2.2.2.2.2.2.2.2.2.2.1
theorem d_Past_undoLatest_30 : decode prog_5_method_8_code 30 = .ok (.istore_n 2, 1) := F_Past_undoLatest_0.2.2.2.2.2.2.2.2.2.2.2.2.2.2.2.2.2.1
theorem d_Past_undoLatest_31 : decode prog_5_method_8_code 31 = .ok (.aload_n 0, 1) := F_Past_undoLatest_0.2.2.2.2.2.2.2.2.2.2.2.2.2.2.2.2.2.2.1
theorem d_Past_undoLatest_32 : decode prog_5_method_8_code 32 = .ok (.getfield 9, 3) := F_Past_undoLatest_0.2.2.2.2.2.2.2.2.2.2.2.2.2.2.2.2.2.2.2.1
theorem d_Past_undoLatest_35 : decode prog_5_method_8_code 35 = .ok (.iload_n 2, 1) := F_Past_undoLatest_0.2.2.2.2.2.2.2.2.2.2.2.2.2.2.2.2.2.2.2.2.1
theorem d_Past_undoLatest_36 : decode prog_5_method_8_code 36 = .ok (.iaload, 1) := F_Past_undoLatest_0.2.2.2.2.2.2.2.2.2.2.2.2.2.2.2.2.2.2.2.2.2.1
theorem F_Past_undoLatest_64 : Jvm.Free.DS.Facts prog_5_method_8_code 64 [(.aload_n 1, 1), (.aload_n 1, 1), (.getfield 46, 3), (.iconst 1, 1), (.isub, 1), (.invokevirtual 51, 3), (.goto (69), 3), (.aload_n 1, 1), (.aload_n 0, 1), (.getfield 15, 3), (.iload_n 2, 1), (.iaload, 1), (.aload_n 0, 1), (.getfield 20, 3), (.iload_n 2, 1), (.aaload, 1), (.invokevirtual 55, 3), (.goto (50), 3), (.aload_n 1, 1), (.dup, 1), (.getfield 59, 3), (.iconst 1, 1), (.isub, 1), (.putfield 59, 3), (.goto (37), 3), (.iconst 0, 1), (.istore_n 3, 1), (.iload_n 3, 1), (.bipush (8), 2), (.if_icmp .ge (29), 3), (.aload_n 0, 1), (.getfield 20, 3)] := Jvm.Free.DS.facts 64 _ (by decide +kernel) (by decide +kernel)
theorem d_Past_undoLatest_64 : decode prog_5_method_8_code 64 = .ok (.aload_n 1, 1) := F_Past_undoLatest_64.1
theorem d_Past_undoLatest_65 : decode prog_5_method_8_code 65 = .ok (.aload_n 1, 1) := F_Past_undoLatest_64.2.1
theorem d_Past_undoLatest_66 : decode prog_5_method_8_code 66 = .ok (.getfield 46, 3) := F_Past_undoLatest_64.2.2.1
theorem d_Past_undoLatest_69 : decode prog_5_method_8_code 69 = .ok (.iconst 1, 1) := F_Past_undoLatest_64.2.2.2.1
theorem d_Past_undoLatest_70 : decode prog_5_method_8_code 70 = .ok (.isub, 1) := F_Past_undoLatest_64.2.2.2.2.1
theorem d_Past_undoLatest_71 : decode prog_5_method_8_code 71 = .ok (.invokevirtual 51, 3) := F_Past_undoLatest_64.2.2.2.2.2.1
theorem d_Past_undoLatest_74 : decode prog_5_method_8_code 74 = .ok (.goto (69), 3) := F_Past_undoLatest_64.2.2.2.2.2.2.1
theorem d_Past_undoLatest_77 : decode prog_5_method_8_code 77 = .ok (.aload_n 1, 1) := F_Past_undoLatest_64.2.2.2.2.2.2.2.1
theorem d_Past_undoLatest_78 : decode prog_5_method_8_code 78 = .ok (.aload_n 0, 1) := F_Past_undoLatest_64.2.2.2.2.2.2.2.2.1
theorem d_Past_undoLatest_79 : decode prog_5_method_8_code 79 = .ok (.getfield 15, 3) := F_Past_undoLatest_64.2.2.2.2.2.2.2.2.2.1
theorem d_Past_undoLatest_82 : decode prog_5_method_8_code 82 = .ok (.iload_n 2, 1) := F_Past_undoLatest_64.2.2.2.2.2.2.2.2.2.2.1
theorem d_Past_undoLatest_83 : decode prog_5_method_8_code 83 = .ok (.iaload, 1) := F_Past_undoLatest_64.2.2.2.2.2.2.2.2.2.2.2.1
theorem d_Past_undoLatest_84 : decode prog_5_method_8_code 84 = .ok (.aload_n 0, 1) := F_Past_undoLatest_64.2.2.2.2.2.2.2.2.2.2.2.2.1
theorem d_Past_undoLatest_85 : decode prog_5_method_8_code 85 = .ok (.getfield 20, 3) := F_Past_undoLatest_64.2.2.2.2.2.2.2.2.2.2.2.2.2.1
theorem d_Past_undoLatest_88 : decode prog_5_method_8_code 88 = .ok (.iload_n 2, 1) := F_Past_undoLatest_64.2.2.2.2.2.2.2.2.2.2.2.2.2.2.1
theorem d_Past_undoLatest_89 : decode prog_5_method_8_code 89 = .ok (.aaload, 1) := F_Past_undoLatest_64.2.2.2.2.2.2.2.2.2.2.2.2.2.2.2.1
theorem d_Past_undoLatest_90 : decode prog_5_method_8_code 90 = .ok (.invokevirtual 55, 3) := F_Past_undoLatest_64.2.2.2.2.2.2.2.2.2.2.2.2.2.2.2.2.1
theorem d_Past_undoLatest_93 : decode prog_5_method_8_code 93 = .ok (.goto (50), 3) := F_Past_undoLatest_64.2.2.2.2.2.2.2.2.2.2.2.2.2.2.2.2.2.1
theorem d_Past_undoLatest_96 : decode prog_5_method_8_code 96 = .ok (.aload_n 1, 1) := F_Past_undoLatest_64.2.2.2.2.2.2.2.2.2.2.2.2.2.2.2.2.2.2.1
theorem d_Past_undoLatest_97 : decode prog_5_method_8_code 97 = .ok (.dup, 1) := F_Past_undoLatest_64.2.2.2.2.2.2.2.2.2.2.2.2.2.2.2.2.2.2.2.1
theorem d_Past_undoLatest_98 : decode prog_5_method_8_code 98 = .ok (.getfield 59, 3) := F_Past_undoLatest_64.2.2.2.2.2.2.2.2.2.2.2.2.2.2.2.2.2.2.2.2.1
theorem d_Past_undoLatest_101 : decode prog_5_method_8_code 101 = .ok (.iconst 1, 1) := F_Past_undoLatest_64.2.2.2.2.2.2.2.2.2.2.2.2.2.2.2.2.2.2.2.2.2.1
theorem d_Past_undoLatest_102 : decode prog_5_method_8_code 102 = .ok (.isub, 1) := F_Past_undoLatest_64.2.2.2.2.2.2.2.2.2.2.2.2.2.2.2.2.2.2.2.2.2.2.1
theorem d_Past_undoLatest_103 : decode prog_5_method_8_code 103 = .ok (.putfield 59, 3) := F_Past_undoLatest_64.2.2.2.2.2.2.2.2.2.2.2.2.2.2.2.2.2.2.2.2.2.2.2.1
theorem d_Past_undoLatest_106 : decode prog_5_method_8_code 106 = .ok (.goto (37), 3) := F_Past_undoLatest_64.2.2.2.2.2.2.2.2.2.2.2.2.2.2.2.2.2.2.2.2.2.2.2.2.1
theorem d_Past_undoLatest_109 : decode prog_5_method_8_code 109 = .ok (.iconst 0, 1) := F_Past_undoLatest_64.2.2.2.2.2.2.2.2.2.2.2.2.2.2.2.2.2.2.2.2.2.2.2.2.2.1
theorem d_Past_undoLatest_110 : decode prog_5_method_8_code 110 = .ok (.istore_n 3, 1) := F_Past_undoLatest_64.2.2.2.2.2.2.2.2.2.2.2.2.2.2.2.2.2.2.2.2.2.2.2.2.2.2.1
theorem d_Past_undoLatest_111 : decode prog_5_method_8_code 111 = .ok (.iload_n 3, 1) := F_Past_undoLatest_64.2.2.2.2.2.2.2.2.2.2.2.2.2.2.2.2.2.2.2.2.2.2.2.2.2.2.2.1
theorem d_Past_undoLatest_112 : decode prog_5_method_8_code 112 = .ok (.bipush (8), 2) := F_Past_undoLatest_64.2.2.2.2.2.2.2.2.2.2.2.2.2.2.2.2.2.2.2.2.2.2.2.2.2.2.2.2.1
theorem d_Past_undoLatest_114 : decode prog_5_method_8_code 114 = .ok (.if_icmp .ge (29), 3) := F_Past_undoLatest_64.2.2.2.2.2.2.2.2.2.2.2.2.2.2.2.2.2.2.2.2.2.2.2.2.2.2.2.2.2.1
theorem d_Past_undoLatest_117 : decode prog_5_method_8_code 117 = .ok (.aload_n 0, 1) := F_Past_undoLatest_64.2.2.2.2.2.2.2.2.2.2.2.2.2.2.2.2.2.2.2.2.2.2.2.2.2.2.2.2.2.2.1
theorem d_Past_undoLatest_118 : decode prog_5_method_8_code 118 = .ok (.getfield 20, 3) := F_Past_undoLatest_64.2.2.2.2.2.2.2.2.2.2.2.2.2.2.2.2.2.2.2.2.2.2.2.2.2.2.2.2.2.2.2.1
theorem F_Past_undoLatest_121 : Jvm.Free.DS.Facts prog_5_method_8_code 121 [(.iload_n 2, 1), (.aaload, 1), (.iconst 3, 1), (.iload_n 3, 1), (.imul, 1), (.aload_n 1, 1), (.getfield 62, 3), (.iload_n 3, 1), (.aaload, 1), (.iconst 0, 1), (.iconst 3, 1), (.invokestatic 37, 3), (.iinc 3 (1), 3), (.goto (-29), 3), (.return_, 1)] := Jvm.Free.DS.facts 121 _ (by decide +kernel) (by decide +kernel)
theorem d_Past_undoLatest_121 : decode prog_5_method_8_code 121 = .ok (.iload_n 2, 1) := F_Past_undoLatest_121.1
theorem d_Past_undoLatest_122 : decode prog_5_method_8_code 122 = .ok (.aaload, 1) := F_Past_undoLatest_121.2.1
theorem d_Past_undoLatest_123 : decode prog_5_method_8_code 123 = .ok (.iconst 3, 1) := F_Past_undoLatest_121.2.2.1
theorem d_Past_undoLatest_124 : decode prog_5_method_8_code 124 = .ok (.iload_n 3, 1) := F_Past_undoLatest_121.2.2.2.1
theorem d_Past_undoLatest_125 : decode prog_5_method_8_code 125 = .ok (.imul, 1) := F_Past_undoLatest_121.2.2.2.2.1
theorem d_Past_undoLatest_126 : decode prog_5_method_8_code 126 = .ok (.aload_n 1, 1) := F_Past_undoLatest_121.2.2.2.2.2.1
theorem d_Past_undoLatest_127 : decode prog_5_method_8_code 127 = .ok (.getfield 62, 3) := F_Past_undoLatest_121.2.2.2.2.2.2.1
theorem d_Past_undoLatest_130 : decode prog_5_method_8_code 130 = .ok (.iload_n 3, 1) := F_Past_undoLatest_121.2.2.2.2.2.2.2.1
theorem d_Past_undoLatest_131 : decode prog_5_method_8_code 131 = .ok (.aaload, 1) := F_Past_undoLatest_121.2.2.2.2.2.2.2.2.1
theorem d_Past_undoLatest_132 : decode prog_5_method_8_code 132 = .ok (.iconst 0, 1) := F_Past_undoLatest_121.2.2.2.2.2.2.2.2.2.1
theorem d_Past_undoLatest_133 : decode prog_5_method_8_code 133 = .ok (.iconst 3, 1) := F_Past_undoLatest_121.2.2.2.2.2.2.2.2.2.2.1
theorem d_Past_undoLatest_134 : decode prog_5_method_8_code 134 = .ok (.invokestatic 37, 3) := F_Past_undoLatest_121.2.2.2.2.2.2.2.2.2.2.2.1
theorem d_Past_undoLatest_137 : decode prog_5_method_8_code 137 = .ok (.iinc 3 (1), 3) := F_Past_undoLatest_121.2.2.2.2.2.2.2.2.2.2.2.2.1
theorem d_Past_undoLatest_140 : decode prog_5_method_8_code 140 = .ok (.goto (-29), 3) := F_Past_undoLatest_121.2.2.2.2.2.2.2.2.2.2.2.2.2.1
theorem d_Past_undoLatest_143 : decode prog_5_method_8_code 143 = .ok (.return_, 1) := F_Past_undoLatest_121.2.2.2.2.2.2.2.2.2.2.2.2.2.2.1
theorem F_Plane_returnMap_0 : Jvm.Free.DS.Facts prog_6_method_8_code 0 [(.iload_n 1, 1), (.ifCond .lt (73), 3), (.iload_n 1, 1), (.aload_n 0, 1), (.getfield 33, 3), (.if_icmp .gt (65), 3), (.aload_n 0, 1), (.getfield 33, 3), (.bipush (16), 2), (.if_icmp .ge (56), 3), (.aload_n 0, 1), (.getfield 33, 3), (.istore_n 3, 1), (.iload_n 3, 1), (.iload_n 1, 1), (.if_icmp .le (26), 3), (.aload_n 0, 1), (.getfield 19, 3), (.iload_n 3, 1), (.iconst 1, 1), (.isub, 1), (.aaload, 1), (.aload_n 0, 1), (.getfield 19, 3), (.iload_n 3, 1), (.aaload, 1), (.invokestatic 39, 3), (.iinc 3 (-1), 3), (.goto (-25), 3), (.aload_n 2, 1), (.aload_n 0, 1), (.getfield 19, 3)] := Jvm.Free.DS.facts 0 _ (by decide +kernel) (by decide +kernel)
theorem d_Plane_returnMap_0 : decode prog_6_method_8_code 0 = .ok (.iload_n 1, 1) := F_Plane_returnMap_0.1
theorem d_Plane_returnMap_1 : decode prog_6_method_8_code 1 = .ok (.ifCond .lt (73), 3) := F_Plane_returnMap_0.2.1
theorem d_Plane_returnMap_4 : decode prog_6_method_8_code 4 = .ok (.iload_n 1, 1) := F_Plane_returnMap_0.2.2.1
theorem d_Plane_returnMap_5 : decode prog_6_method_8_code 5 = .ok (.aload_n 0, 1) := F_Plane_returnMap_0.2.2.2.1
theorem d_Plane_returnMap_6 : decode prog_6_method_8_code 6 = .ok (.getfield 33, 3) := F_Plane_returnMap_0.2.2.2.2.1
theorem d_Plane_returnMap_9 : decode prog_6_method_8_code 9 = .ok (.if_icmp .gt (65), 3) := F_Plane_returnMap_0.2.2.2.2.2.1
theorem d_Plane_returnMap_12 : decode prog_6_method_8_code 12 = .ok (.aload_n 0, 1) := F_Plane_returnMap_0.2.2.2.2.2.2.1
theorem d_Plane_returnMap_13 : decode prog_6_method_8_code 13 = .ok (.getfield 33, 3) := F_Plane_returnMap_0.2.2.2.2.2.2.2.1
theorem d_Plane_returnMap_16 : decode prog_6_method_8_code 16 = .ok (.bipush (16), 2) := F_Plane_returnMap_0.2.2.2.2.2.2.2.2.1
theorem d_Plane_returnMap_18 : decode prog_6_method_8_code 18 = .ok (.if_icmp .ge (56), 3) := F_Plane_returnMap_0.2.2.2.2.2.2.2.2.2.1
theorem d_Plane_returnMap_21 : decode prog_6_method_8_code 21 = .ok (.aload_n 0, 1) := F_Plane_returnMap_0.2.2.2.2.2.2.2.2.2.2.1
theorem d_Plane_returnMap_22 : decode prog_6_method_8_code 22 = .ok (.getfield 33, 3) := F_Plane_returnMap_0.2.2.2.2.2.2.2.2.2.2.2.1
theorem d_Plane_returnMap_25 : decode prog_6_method_8_code 25 = .ok (.istore_n 3, 1) := F_Plane_returnMap_0.2.2.2.2.2.2.2.2.2.2.2.2.1
theorem d_Plane_returnMap_26 : decode prog_6_method_8_code 26 = .ok (.iload_n 3, 1) := F_Plane_returnMap_0.2.2.2.2.2.2.2.2.2.2.2.2.2.1
theorem d_Plane_returnMap_27 : decode prog_6_method_8_code 27 = .ok (.iload_n 1, 1) := F_Plane_returnMap_0.2.2.2.2.2.2.2.2.2.2.2.2.2.2.1
theorem d_Plane_returnMap_28 : decode prog_6_method_8_code 28 = .ok (.if_icmp .le (26), 3) := F_Plane_returnMap_0.2.2.2.2.2.2.2.2.2.2.2.2.2.2.2.1
theorem d_Plane_returnMap_31 : decode prog_6_method_8_code 31 = .ok (.aload_n 0, 1) := F_Plane_returnMap_0.2.2.2.2.2.2.2.2.2.2.2.2.2.2.2.2.1
theorem d_Plane_returnMap_32 : decode prog_6_method_8_code 32 = .ok (.getfield 19, 3) := F_Plane_returnMap_0.2.2.2.2.2.2.2.2.2.2.2.2.2.2.2.2.2.1
theorem d_Plane_returnMap_35 : decode prog_6_method_8_code 35 = .ok (.iload_n 3, 1) := F_Plane_returnMap_0.2.2.2.2.2.2.2.2.2.2.2.2.2.2.2.2.2.2.1
theorem d_Plane_returnMap_36 : decode prog_6_method_8_code 36 = .ok (.iconst 1, 1) := F_Plane_returnMap_0.2.2.2.2.2.2.2.2.2.2.2.2.2.2.2.2.2.2.2.1
theorem d_Plane_returnMap_37 : decode prog_6_method_8_code 37 = .ok (.isub, 1) := F_Plane_returnMap_0.2.2.2.2.2.2.2.2.2.2.2.2.2.2.2.2.2.2.2.2.1
theorem d_Plane_returnMap_38 : decode prog_6_method_8_code 38 = .ok (.aaload, 1) := F_Plane_returnMap_0.2.2.2.2.2.2.2.2.2.2.2.2.2.2.2.2.2.2.2.2.2.1
theorem d_Plane_returnMap_39 : decode prog_6_method_8_code 39 = .ok (.aload_n 0, 1) := F_Plane_returnMap_0.2.2.2.2.2.2.2.2.2.2.2.2.2.2.2.2.2.2.2.2.2.2.1
theorem d_Plane_returnMap_40 : decode prog_6_method_8_code 40 = .ok (.getfield 19, 3) := F_Plane_returnMap_0.2.2.2.2.2.2.2.2.2.2.2.2.2.2.2.2.2.2.2.2.2.2.2.1
theorem d_Plane_returnMap_43 : decode prog_6_method_8_code 43 = .ok (.iload_n 3, 1) := F_Plane_returnMap_0.2.2.2.2.2.2.2.2.2.2.2.2.2.2.2.2.2.2.2.2.2.2.2.2.1
theorem d_Plane_returnMap_44 : decode prog_6_method_8_code 44 = .ok (.aaload, 1) := F_Plane_returnMap_0.2.2.2.2.2.2.2.2.2.2.2.2.2.2.2.2.2.2.2.2.2.2.2.2.2.1
theorem d_Plane_returnMap_45 : decode prog_6_method_8_code 45 = .ok (.invokestatic 39, 3) := F_Plane_returnMap_0.2.2.2.2.2.2.2.2.2.2.2.2.2.2.2.2.2.2.2.2.2.2.2.2.2.2.1
theorem d_Plane_returnMap_48 : decode prog_6_method_8_code 48 = .ok (.iinc 3 (-1), 3) := F_Plane_returnMap_0.2.2.2.2.2.2.2.2.2.2.2.2.2.2.2.2.2.2.2.2.2.2.2.2.2.2.2.1
theorem d_Plane_returnMap_51 : decode prog_6_method_8_code 51 = .ok (.goto (-25), 3) := F_Plane_returnMap_0.2.2.2.2.2.2.2.2.2.2.2.2.2.2.2.2.2.2.2.2.2.2.2.2.2.2.2.2.1
theorem d_Plane_returnMap_54 : decode prog_6_method_8_code 54 = .ok (.aload_n 2, 1) := F_Plane_returnMap_0.2.2.2.2.2.2.2.2.2.2.2.2.2.2.2.2.2.2.2.2.2.2.2.2.2.2.2.2.2.1
theorem d_Plane_returnMap_55 : decode prog_6_method_8_code 55 = .ok (.aload_n 0, 1) := F_Plane_returnMap_0.2.2.2.2.2.2.2.2.2.2.2.2.2.2.2.2.2.2.2.2.2.2.2.2.2.2.2.2.2.2.1
theorem d_Plane_returnMap_56 : decode prog_6_method_8_code 56 = .ok (.getfield 19, 3) := F_Plane_returnMap_0.2.2.2.2.2.2.2.2.2.2.2.2.2.2.2.2.2.2.2.2.2.2.2.2.2.2.2.2.2.2.2.1
theorem F_Plane_returnMap_59 : Jvm.Free.DS.Facts prog_6_method_8_code 59 [(.iload_n 1, 1), (.aaload, 1), (.invokestatic 39, 3), (.aload_n 0, 1), (.dup, 1), (.getfield 33, 3), (.iconst 1, 1), (.iadd, 1), (.putfield 33, 3), (.return_, 1)] := Jvm.Free.DS.facts 59 _ (by decide +kernel) (by decide +kernel)
theorem d_Plane_returnMap_59 : decode prog_6_method_8_code 59 = .ok (.iload_n 1, 1) := F_Plane_returnMap_59.1
theorem d_Plane_returnMap_60 : decode prog_6_method_8_code 60 = .ok (.aaload, 1) := F_Plane_returnMap_59.2.1
theorem d_Plane_returnMap_61 : decode prog_6_method_8_code 61 = .ok (.invokestatic 39, 3) := F_Plane_returnMap_59.2.2.1
theorem d_Plane_returnMap_64 : decode prog_6_method_8_code 64 = .ok (.aload_n 0, 1) := F_Plane_returnMap_59.2.2.2.1
theorem d_Plane_returnMap_65 : decode prog_6_method_8_code 65 = .ok (.dup, 1) := F_Plane_returnMap_59.2.2.2.2.1
theorem d_Plane_returnMap_66 : decode prog_6_method_8_code 66 = .ok (.getfield 33, 3) := F_Plane_returnMap_59.2.2.2.2.2.1
theorem d_Plane_returnMap_69 : decode prog_6_method_8_code 69 = .ok (.iconst 1, 1) := F_Plane_returnMap_59.2.2.2.2.2.2.1
theorem d_Plane_returnMap_70 : decode prog_6_method_8_code 70 = .ok (.iadd, 1) := F_Plane_returnMap_59.2.2.2.2.2.2.2.1
theorem d_Plane_returnMap_71 : decode prog_6_method_8_code 71 = .ok (.putfield 33, 3) := F_Plane_returnMap_59.2.2.2.2.2.2.2.2.1
theorem d_Plane_returnMap_74 : decode prog_6_method_8_code 74 = .ok (.return_, 1) := F_Plane_returnMap_59.2.2.2.2.2.2.2.2.2.1
theorem F_CM_image_0 : Jvm.Free.DS.Facts prog_1_method_20_code 0 [(.aload_n 0, 1), (.getfield 12, 3), (.iload_n 1, 1), (.invokevirtual 151, 3), (.ifCond .eq (21), 3), (.iload_n 2, 1), (.iload_n 3, 1), (.iload 4, 2), (.invokestatic 267, 3), (.ifCond .eq (11), 3), (.iload 5, 2), (.invokestatic 154, 3), (.ifCond .ne (7), 3), (.ldc2_w 270, 3), (.lreturn, 1), (.iload_n 2, 1), (.i2l, 1), (.iload_n 3, 1), (.i2l, 1), (.iload 4, 2), (.i2l, 1), (.aload_n 0, 1), (.getfield 75, 3), (.invokestatic 238, 3), (.aload_n 0, 1), (.getfield 12, 3), (.getfield 157, 3), (.iload_n 1, 1), (.aaload, 1), (.aload_n 0, 1), (.getfield 75, 3), (.aload_n 0, 1)] := Jvm.Free.DS.facts 0 _ (by decide +kernel) (by decide +kernel)
theorem d_CM_image_0 : decode prog_1_method_20_code 0 = .ok (.aload_n 0, 1) := F_CM_image_0.1
theorem d_CM_image_1 : decode prog_1_method_20_code 1 = .ok (.getfield 12, 3) := F_CM_image_0.2.1
theorem d_CM_image_4 : decode prog_1_method_20_code 4 = .ok (.iload_n 1, 1) := F_CM_image_0.2.2.1
theorem d_CM_image_5 : decode prog_1_method_20_code 5 = .ok (.invokevirtual 151, 3) := F_CM_image_0.2.2.2.1
theorem d_CM_image_8 : decode prog_1_method_20_code 8 = .ok (.ifCond .eq (21), 3) := F_CM_image_0.2.2.2.2.1
theorem d_CM_image_11 : decode prog_1_method_20_code 11 = .ok (.iload_n 2, 1) := F_CM_image_0.2.2.2.2.2.1
theorem d_CM_image_12 : decode prog_1_method_20_code 12 = .ok (.iload_n 3, 1) := F_CM_image_0.2.2.2.2.2.2.1
theorem d_CM_image_13 : decode prog_1_method_20_code 13 = .ok (.iload 4, 2) := F_CM_image_0.2.2.2.2.2.2.2.1
theorem d_CM_image_15 : decode prog_1_method_20_code 15 = .ok (.invokestatic 267, 3) := F_CM_image_0.2.2.2.2.2.2.2.2.1
theorem d_CM_image_18 : decode prog_1_method_20_code 18 = .ok (.ifCond .eq (11), 3) := F_CM_image_0.2.2.2.2.2.2.2.2.2.1
theorem d_CM_image_21 : decode prog_1_method_20_code 21 = .ok (.iload 5, 2) := F_CM_image_0.2.2.2.2.2.2.2.2.2.2.1
theorem d_CM_image_23 : decode prog_1_method_20_code 23 = .ok (.invokestatic 154, 3) := F_CM_image_0.2.2.2.2.2.2.2.2.2.2.2.1
theorem d_CM_image_26 : decode prog_1_method_20_code 26 = .ok (.ifCond .ne (7), 3) := F_CM_image_0.2.2.2.2.2.2.2.2.2.2.2.2.1
theorem d_CM_image_29 : decode prog_1_method_20_code 29 = .ok (.ldc2_w 270, 3) := F_CM_image_0.2.2.2.2.2.2.2.2.2.2.2.2.2.1
theorem d_CM_image_32 : decode prog_1_method_20_code 32 = .ok (.lreturn, 1) := F_CM_image_0.2.2.2.2.2.2.2.2.2.2.2.2.2.2.1
theorem d_CM_image_33 : decode prog_1_method_20_code 33 = .ok (.iload_n 2, 1) := F_CM_image_0.2.2.2.2.2.2.2.2.2.2.2.2.2.2.2.1
theorem d_CM_image_34 : decode prog_1_method_20_code 34 = .ok (.i2l, 1) := F_CM_image_0.2.2.2.2.2.2.2.2.2.2.2.2.2.2.2.2.1
theorem d_CM_image_35 : decode prog_1_method_20_code 35 = .ok (.iload_n 3, 1) := F_CM_image_0.2.2.2.2.2.2.2.2.2.2.2.2.2.2.2.2.2.1
theorem d_CM_image_36 : decode prog_1_method_20_code 36 = .ok (.i2l, 1) := F_CM_image_0.2.2.2.2.2.2.2.2.2.2.2.2.2.2.2.2.2.2.1
theorem d_CM_image_37 : decode prog_1_method_20_code 37 = .ok (.iload 4, 2) := F_CM_image_0.2.2.2.2.2.2.2.2.2.2.2.2.2.2.2.2.2.2.2.1
theorem d_CM_image_39 : decode prog_1_method_20_code 39 = .ok (.i2l, 1) := F_CM_image_0.2.2.2.2.2.2.2.2.2.2.2.2.2.2.2.2.2.2.2.2.1
theorem d_CM_image_40 : decode prog_1_method_20_code 40 = .ok (.aload_n 0, 1) := F_CM_image_0.2.2.2.2.2.2.2.2.2.2.2.2.2.2.2.2.2.2.2.2.2.1
theorem d_CM_image_41 : decode prog_1_method_20_code 41 = .ok (.getfield 75, 3) := F_CM_image_0.2.2.2.2.2.2.2.2.2.2.2.2.2.2.2.2.2.2.2.2.2.2.1
theorem d_CM_image_44 : decode prog_1_method_20_code 44 = .ok (.invokestatic 238, 3) := F_CM_image_0.2.2.2.2.2.2.2.2.2.2.2.2.2.2.2.2.2.2.2.2.2.2.2.1
theorem d_CM_image_47 : decode prog_1_method_20_code 47 = .ok (.aload_n 0, 1) := F_CM_image_0.2.2.2.2.2.2.2.2.2.2.2.2.2.2.2.2.2.2.2.2.2.2.2.2.1
theorem d_CM_image_48 : decode prog_1_method_20_code 48 = .ok (.getfield 12, 3) := F_CM_image_0.2.2.2.2.2.2.2.2.2.2.2.2.2.2.2.2.2.2.2.2.2.2.2.2.2.1
theorem d_CM_image_51 : decode prog_1_method_20_code 51 = .ok (.getfield 157, 3) := F_CM_image_0.2.2.2.2.2.2.2.2.2.2.2.2.2.2.2.2.2.2.2.2.2.2.2.2.2.2.1
theorem d_CM_image_54 : decode prog_1_method_20_code 54 = .ok (.iload_n 1, 1) := F_CM_image_0.2.2.2.2.2.2.2.2.2.2.2.2.2.2.2.2.2.2.2.2.2.2.2.2.2.2.2.1
theorem d_CM_image_55 : decode prog_1_method_20_code 55 = .ok (.aaload, 1) := F_CM_image_0.2.2.2.2.2.2.2.2.2.2.2.2.2.2.2.2.2.2.2.2.2.2.2.2.2.2.2.2.1
theorem d_CM_image_56 : decode prog_1_method_20_code 56 = .ok (.aload_n 0, 1) := F_CM_image_0.2.2.2.2.2.2.2.2.2.2.2.2.2.2.2.2.2.2.2.2.2.2.2.2.2.2.2.2.2.1
theorem d_CM_image_57 : decode prog_1_method_20_code 57 = .ok (.getfield 75, 3) := F_CM_image_0.2.2.2.2.2.2.2.2.2.2.2.2.2.2.2.2.2.2.2.2.2.2.2.2.2.2.2.2.2.2.1
theorem d_CM_image_60 : decode prog_1_method_20_code 60 = .ok (.aload_n 0, 1) := F_CM_image_0.2.2.2.2.2.2.2.2.2.2.2.2.2.2.2.2.2.2.2.2.2.2.2.2.2.2.2.2.2.2.2.1
theorem F_CM_image_61 : Jvm.Free.DS.Facts prog_1_method_20_code 61 [(.getfield 78, 3), (.invokestatic 248, 3), (.aload_n 0, 1), (.getfield 78, 3), (.iload 5, 2), (.laload, 1), (.lreturn, 1)] := Jvm.Free.DS.facts 61 _ (by decide +kernel) (by decide +kernel)
theorem d_CM_image_61 : decode prog_1_method_20_code 61 = .ok (.getfield 78, 3) := F_CM_image_61.1
theorem d_CM_image_64 : decode prog_1_method_20_code 64 = .ok (.invokestatic 248, 3) := F_CM_image_61.2.1
theorem d_CM_image_67 : decode prog_1_method_20_code 67 = .ok (.aload_n 0, 1) := F_CM_image_61.2.2.1
theorem d_CM_image_68 : decode prog_1_method_20_code 68 = .ok (.getfield 78, 3) := F_CM_image_61.2.2.2.1
theorem d_CM_image_71 : decode prog_1_method_20_code 71 = .ok (.iload 5, 2) := F_CM_image_61.2.2.2.2.1
theorem d_CM_image_73 : decode prog_1_method_20_code 73 = .ok (.laload, 1) := F_CM_image_61.2.2.2.2.2.1
theorem d_CM_image_74 : decode prog_1_method_20_code 74 = .ok (.lreturn, 1) := F_CM_image_61.2.2.2.2.2.2.1
theorem F_CM_isTriple_0 : Jvm.Free.DS.Facts prog_1_method_81_code 0 [(.iload_n 0, 1), (.iload_n 1, 1), (.iload_n 2, 1), (.invokestatic 228, 3), (.ifCond .eq (16), 3), (.iload_n 0, 1), (.iload_n 1, 1), (.iload_n 2, 1), (.invokestatic 235, 3), (.ifCond .eq (7), 3), (.iconst 1, 1), (.goto (4), 3), (.iconst 0, 1), (.ireturn, 1)] := Jvm.Free.DS.facts 0 _ (by decide +kernel) (by decide +kernel)
theorem d_CM_isTriple_0 : decode prog_1_method_81_code 0 = .ok (.iload_n 0, 1) := F_CM_isTriple_0.1
theorem d_CM_isTriple_1 : decode prog_1_method_81_code 1 = .ok (.iload_n 1, 1) := F_CM_isTriple_0.2.1
theorem d_CM_isTriple_2 : decode prog_1_method_81_code 2 = .ok (.iload_n 2, 1) := F_CM_isTriple_0.2.2.1
theorem d_CM_isTriple_3 : decode prog_1_method_81_code 3 = .ok (.invokestatic 228, 3) := F_CM_isTriple_0.2.2.2.1
theorem d_CM_isTriple_6 : decode prog_1_method_81_code 6 = .ok (.ifCond .eq (16), 3) := F_CM_isTriple_0.2.2.2.2.1
theorem d_CM_isTriple_9 : decode prog_1_method_81_code 9 = .ok (.iload_n 0, 1) := F_CM_isTriple_0.2.2.2.2.2.1
theorem d_CM_isTriple_10 : decode prog_1_method_81_code 10 = .ok (.iload_n 1, 1) := F_CM_isTriple_0.2.2.2.2.2.2.1
theorem d_CM_isTriple_11 : decode prog_1_method_81_code 11 = .ok (.iload_n 2, 1) := F_CM_isTriple_0.2.2.2.2.2.2.2.1
theorem d_CM_isTriple_12 : decode prog_1_method_81_code 12 = .ok (.invokestatic 235, 3) := F_CM_isTriple_0.2.2.2.2.2.2.2.2.1
theorem d_CM_isTriple_15 : decode prog_1_method_81_code 15 = .ok (.ifCond .eq (7), 3) := F_CM_isTriple_0.2.2.2.2.2.2.2.2.2.1
theorem d_CM_isTriple_18 : decode prog_1_method_81_code 18 = .ok (.iconst 1, 1) := F_CM_isTriple_0.2.2.2.2.2.2.2.2.2.2.1
theorem d_CM_isTriple_19 : decode prog_1_method_81_code 19 = .ok (.goto (4), 3) := F_CM_isTriple_0.2.2.2.2.2.2.2.2.2.2.2.1
theorem d_CM_isTriple_22 : decode prog_1_method_81_code 22 = .ok (.iconst 0, 1) := F_CM_isTriple_0.2.2.2.2.2.2.2.2.2.2.2.2.1
theorem d_CM_isTriple_23 : decode prog_1_method_81_code 23 = .ok (.ireturn, 1) := F_CM_isTriple_0.2.2.2.2.2.2.2.2.2.2.2.2.2.1
theorem F_CM_isThird_0 : Jvm.Free.DS.Facts prog_1_method_75_code 0 [(.iload_n 0, 1), (.ifCond .lt (12), 3), (.iload_n 0, 1), (.iconst 3, 1), (.if_icmp .ge (7), 3), (.iconst 1, 1), (.goto (4), 3), (.iconst 0, 1), (.ireturn, 1)] := Jvm.Free.DS.facts 0 _ (by decide +kernel) (by decide +kernel)
theorem d_CM_isThird_0 : decode prog_1_method_75_code 0 = .ok (.iload_n 0, 1) := F_CM_isThird_0.1
theorem d_CM_isThird_1 : decode prog_1_method_75_code 1 = .ok (.ifCond .lt (12), 3) := F_CM_isThird_0.2.1
theorem d_CM_isThird_4 : decode prog_1_method_75_code 4 = .ok (.iload_n 0, 1) := F_CM_isThird_0.2.2.1
theorem d_CM_isThird_5 : decode prog_1_method_75_code 5 = .ok (.iconst 3, 1) := F_CM_isThird_0.2.2.2.1
theorem d_CM_isThird_6 : decode prog_1_method_75_code 6 = .ok (.if_icmp .ge (7), 3) := F_CM_isThird_0.2.2.2.2.1
theorem d_CM_isThird_9 : decode prog_1_method_75_code 9 = .ok (.iconst 1, 1) := F_CM_isThird_0.2.2.2.2.2.1
theorem d_CM_isThird_10 : decode prog_1_method_75_code 10 = .ok (.goto (4), 3) := F_CM_isThird_0.2.2.2.2.2.2.1
theorem d_CM_isThird_13 : decode prog_1_method_75_code 13 = .ok (.iconst 0, 1) := F_CM_isThird_0.2.2.2.2.2.2.2.1
theorem d_CM_isThird_14 : decode prog_1_method_75_code 14 = .ok (.ireturn, 1) := F_CM_isThird_0.2.2.2.2.2.2.2.2.1
theorem F_CM_before_0 : Jvm.Free.DS.Facts prog_1_method_21_code 0 [(.aload_n 0, 1), (.getfield 12, 3), (.iload_n 1, 1), (.invokevirtual 151, 3), (.ifCond .eq (21), 3), (.iload_n 2, 1), (.iload_n 3, 1), (.iload 4, 2), (.invokestatic 267, 3), (.ifCond .eq (11), 3), (.iload 5, 2), (.invokestatic 154, 3), (.ifCond .ne (7), 3), (.ldc2_w 270, 3), (.lreturn, 1), (.aload_n 0, 1), (.getfield 12, 3), (.getfield 157, 3), (.iload_n 1, 1), (.aaload, 1), (.aload_n 0, 1), (.getfield 65, 3), (.invokestatic 202, 3), (.aload_n 0, 1), (.getfield 65, 3), (.invokestatic 272, 3), (.ifCond .eq (7), 3), (.ldc2_w 275, 3), (.lreturn, 1), (.iload_n 2, 1), (.i2l, 1), (.iload_n 3, 1)] := Jvm.Free.DS.facts 0 _ (by decide +kernel) (by decide +kernel)
theorem d_CM_before_0 : decode prog_1_method_21_code 0 = .ok (.aload_n 0, 1) := F_CM_before_0.1
theorem d_CM_before_1 : decode prog_1_method_21_code 1 = .ok (.getfield 12, 3) := F_CM_before_0.2.1
theorem d_CM_before_4 : decode prog_1_method_21_code 4 = .ok (.iload_n 1, 1) := F_CM_before_0.2.2.1
theorem d_CM_before_5 : decode prog_1_method_21_code 5 = .ok (.invokevirtual 151, 3) := F_CM_before_0.2.2.2.1
theorem d_CM_before_8 : decode prog_1_method_21_code 8 = .ok (.ifCond .eq (21), 3) := F_CM_before_0.2.2.2.2.1
theorem d_CM_before_11 : decode prog_1_method_21_code 11 = .ok (.iload_n 2, 1) := F_CM_before_0.2.2.2.2.2.1
theorem d_CM_before_12 : decode prog_1_method_21_code 12 = .ok (.iload_n 3, 1) := F_CM_before_0.2.2.2.2.2.2.1
theorem d_CM_before_13 : decode prog_1_method_21_code 13 = .ok (.iload 4, 2) := F_CM_before_0.2.2.2.2.2.2.2.1
theorem d_CM_before_15 : decode prog_1_method_21_code 15 = .ok (.invokestatic 267, 3) := F_CM_before_0.2.2.2.2.2.2.2.2.1
theorem d_CM_before_18 : decode prog_1_method_21_code 18 = .ok (.ifCond .eq (11), 3) := F_CM_before_0.2.2.2.2.2.2.2.2.2.1
theorem d_CM_before_21 : decode prog_1_method_21_code 21 = .ok (.iload 5, 2) := F_CM_before_0.2.2.2.2.2.2.2.2.2.2.1
theorem d_CM_before_23 : decode prog_1_method_21_code 23 = .ok (.invokestatic 154, 3) := F_CM_before_0.2.2.2.2.2.2.2.2.2.2.2.1
theorem d_CM_before_26 : decode prog_1_method_21_code 26 = .ok (.ifCond .ne (7), 3) := F_CM_before_0.2.2.2.2.2.2.2.2.2.2.2.2.1
theorem d_CM_before_29 : decode prog_1_method_21_code 29 = .ok (.ldc2_w 270, 3) := F_CM_before_0.2.2.2.2.2.2.2.2.2.2.2.2.2.1
theorem d_CM_before_32 : decode prog_1_method_21_code 32 = .ok (.lreturn, 1) := F_CM_before_0.2.2.2.2.2.2.2.2.2.2.2.2.2.2.1
theorem d_CM_before_33 : decode prog_1_method_21_code 33 = .ok (.aload_n 0, 1) := F_CM_before_0.2.2.2.2.2.2.2.2.2.2.2.2.2.2.2.1
theorem d_CM_before_34 : decode prog_1_method_21_code 34 = .ok (.getfield 12, 3) := F_CM_before_0.2.2.2.2.2.2.2.2.2.2.2.2.2.2.2.2.1
theorem d_CM_before_37 : decode prog_1_method_21_code 37 = .ok (.getfield 157, 3) := F_CM_before_0.2.2.2.2.2.2.2.2.2.2.2.2.2.2.2.2.2.1
theorem d_CM_before_40 : decode prog_1_method_21_code 40 = .ok (.iload_n 1, 1) := F_CM_before_0.2.2.2.2.2.2.2.2.2.2.2.2.2.2.2.2.2.2.1
theorem d_CM_before_41 : decode prog_1_method_21_code 41 = .ok (.aaload, 1) := F_CM_before_0.2.2.2.2.2.2.2.2.2.2.2.2.2.2.2.2.2.2.2.1
theorem d_CM_before_42 : decode prog_1_method_21_code 42 = .ok (.aload_n 0, 1) := F_CM_before_0.2.2.2.2.2.2.2.2.2.2.2.2.2.2.2.2.2.2.2.2.1
theorem d_CM_before_43 : decode prog_1_method_21_code 43 = .ok (.getfield 65, 3) := F_CM_before_0.2.2.2.2.2.2.2.2.2.2.2.2.2.2.2.2.2.2.2.2.2.1
theorem d_CM_before_46 : decode prog_1_method_21_code 46 = .ok (.invokestatic 202, 3) := F_CM_before_0.2.2.2.2.2.2.2.2.2.2.2.2.2.2.2.2.2.2.2.2.2.2.1
theorem d_CM_before_49 : decode prog_1_method_21_code 49 = .ok (.aload_n 0, 1) := F_CM_before_0.2.2.2.2.2.2.2.2.2.2.2.2.2.2.2.2.2.2.2.2.2.2.2.1
theorem d_CM_before_50 : decode prog_1_method_21_code 50 = .ok (.getfield 65, 3) := F_CM_before_0.2.2.2.2.2.2.2.2.2.2.2.2.2.2.2.2.2.2.2.2.2.2.2.2.1
theorem d_CM_before_53 : decode prog_1_method_21_code 53 = .ok (.invokestatic 272, 3) := F_CM_before_0.2.2.2.2.2.2.2.2.2.2.2.2.2.2.2.2.2.2.2.2.2.2.2.2.2.1
theorem d_CM_before_56 : decode prog_1_method_21_code 56 = .ok (.ifCond .eq (7), 3) := F_CM_before_0.2.2.2.2.2.2.2.2.2.2.2.2.2.2.2.2.2.2.2.2.2.2.2.2.2.2.1
theorem d_CM_before_59 : decode prog_1_method_21_code 59 = .ok (.ldc2_w 275, 3) := F_CM_before_0.2.2.2.2.2.2.2.2.2.2.2.2.2.2.2.2.2.2.2.2.2.2.2.2.2.2.2.1
theorem d_CM_before_62 : decode prog_1_method_21_code 62 = .ok (.lreturn, 1) := F_CM_before_0.2.2.2.2.2.2.2.2.2.2.2.2.2.2.2.2.2.2.2.2.2.2.2.2.2.2.2.2.1
theorem d_CM_before_63 : decode prog_1_method_21_code 63 = .ok (.iload_n 2, 1) := F_CM_before_0.2.2.2.2.2.2.2.2.2.2.2.2.2.2.2.2.2.2.2.2.2.2.2.2.2.2.2.2.2.1
theorem d_CM_before_64 : decode prog_1_method_21_code 64 = .ok (.i2l, 1) := F_CM_before_0.2.2.2.2.2.2.2.2.2.2.2.2.2.2.2.2.2.2.2.2.2.2.2.2.2.2.2.2.2.2.1
theorem d_CM_before_65 : decode prog_1_method_21_code 65 = .ok (.iload_n 3, 1) := F_CM_before_0.2.2.2.2.2.2.2.2.2.2.2.2.2.2.2.2.2.2.2.2.2.2.2.2.2.2.2.2.2.2.2.1
theorem F_CM_before_66 : Jvm.Free.DS.Facts prog_1_method_21_code 66 [(.i2l, 1), (.iload 4, 2), (.i2l, 1), (.aload_n 0, 1), (.getfield 75, 3), (.invokestatic 238, 3), (.aload_n 0, 1), (.getfield 65, 3), (.aload_n 0, 1), (.getfield 75, 3), (.aload_n 0, 1), (.getfield 78, 3), (.invokestatic 248, 3), (.aload_n 0, 1), (.getfield 78, 3), (.iload 5, 2), (.laload, 1), (.lreturn, 1)] := Jvm.Free.DS.facts 66 _ (by decide +kernel) (by decide +kernel)
theorem d_CM_before_66 : decode prog_1_method_21_code 66 = .ok (.i2l, 1) := F_CM_before_66.1
theorem d_CM_before_67 : decode prog_1_method_21_code 67 = .ok (.iload 4, 2) := F_CM_before_66.2.1
theorem d_CM_before_69 : decode prog_1_method_21_code 69 = .ok (.i2l, 1) := F_CM_before_66.2.2.1
theorem d_CM_before_70 : decode prog_1_method_21_code 70 = .ok (.aload_n 0, 1) := F_CM_before_66.2.2.2.1
theorem d_CM_before_71 : decode prog_1_method_21_code 71 = .ok (.getfield 75, 3) := F_CM_before_66.2.2.2.2.1
theorem d_CM_before_74 : decode prog_1_method_21_code 74 = .ok (.invokestatic 238, 3) := F_CM_before_66.2.2.2.2.2.1
theorem d_CM_before_77 : decode prog_1_method_21_code 77 = .ok (.aload_n 0, 1) := F_CM_before_66.2.2.2.2.2.2.1
theorem d_CM_before_78 : decode prog_1_method_21_code 78 = .ok (.getfield 65, 3) := F_CM_before_66.2.2.2.2.2.2.2.1
theorem d_CM_before_81 : decode prog_1_method_21_code 81 = .ok (.aload_n 0, 1) := F_CM_before_66.2.2.2.2.2.2.2.2.1
theorem d_CM_before_82 : decode prog_1_method_21_code 82 = .ok (.getfield 75, 3) := F_CM_before_66.2.2.2.2.2.2.2.2.2.1
theorem d_CM_before_85 : decode prog_1_method_21_code 85 = .ok (.aload_n 0, 1) := F_CM_before_66.2.2.2.2.2.2.2.2.2.2.1
theorem d_CM_before_86 : decode prog_1_method_21_code 86 = .ok (.getfield 78, 3) := F_CM_before_66.2.2.2.2.2.2.2.2.2.2.2.1
theorem d_CM_before_89 : decode prog_1_method_21_code 89 = .ok (.invokestatic 248, 3) := F_CM_before_66.2.2.2.2.2.2.2.2.2.2.2.2.1
theorem d_CM_before_92 : decode prog_1_method_21_code 92 = .ok (.aload_n 0, 1) := F_CM_before_66.2.2.2.2.2.2.2.2.2.2.2.2.2.1
theorem d_CM_before_93 : decode prog_1_method_21_code 93 = .ok (.getfield 78, 3) := F_CM_before_66.2.2.2.2.2.2.2.2.2.2.2.2.2.2.1
theorem d_CM_before_96 : decode prog_1_method_21_code 96 = .ok (.iload 5, 2) := F_CM_before_66.2.2.2.2.2.2.2.2.2.2.2.2.2.2.2.1
theorem d_CM_before_98 : decode prog_1_method_21_code 98 = .ok (.laload, 1) := F_CM_before_66.2.2.2.2.2.2.2.2.2.2.2.2.2.2.2.2.1
theorem d_CM_before_99 : decode prog_1_method_21_code 99 = .ok (.lreturn, 1) := F_CM_before_66.2.2.2.2.2.2.2.2.2.2.2.2.2.2.2.2.2.1
theorem F_CM_line_0 : Jvm.Free.DS.Facts prog_1_method_22_code 0 [(.aload_n 0, 1), (.getfield 12, 3), (.iload_n 1, 1), (.invokevirtual 151, 3), (.ifCond .eq (21), 3), (.iload_n 2, 1), (.iload_n 3, 1), (.iload 4, 2), (.invokestatic 267, 3), (.ifCond .eq (11), 3), (.iload 5, 2), (.invokestatic 154, 3), (.ifCond .ne (7), 3), (.ldc2_w 270, 3), (.lreturn, 1), (.aload_n 0, 1), (.getfield 12, 3), (.getfield 157, 3), (.iload_n 1, 1), (.aaload, 1), (.aload_n 0, 1), (.getfield 65, 3), (.invokestatic 202, 3), (.aload_n 0, 1), (.getfield 65, 3), (.invokestatic 272, 3), (.ifCond .eq (7), 3), (.ldc2_w 275, 3), (.lreturn, 1), (.iload_n 2, 1), (.i2l, 1), (.iload_n 3, 1)] := Jvm.Free.DS.facts 0 _ (by decide +kernel) (by decide +kernel)
theorem d_CM_line_0 : decode prog_1_method_22_code 0 = .ok (.aload_n 0, 1) := F_CM_line_0.1
theorem d_CM_line_1 : decode prog_1_method_22_code 1 = .ok (.getfield 12, 3) := F_CM_line_0.2.1
theorem d_CM_line_4 : decode prog_1_method_22_code 4 = .ok (.iload_n 1, 1) := F_CM_line_0.2.2.1
theorem d_CM_line_5 : decode prog_1_method_22_code 5 = .ok (.invokevirtual 151, 3) := F_CM_line_0.2.2.2.1
theorem d_CM_line_8 : decode prog_1_method_22_code 8 = .ok (.ifCond .eq (21), 3) := F_CM_line_0.2.2.2.2.1
theorem d_CM_line_11 : decode prog_1_method_22_code 11 = .ok (.iload_n 2, 1) := F_CM_line_0.2.2.2.2.2.1
theorem d_CM_line_12 : decode prog_1_method_22_code 12 = .ok (.iload_n 3, 1) := F_CM_line_0.2.2.2.2.2.2.1
theorem d_CM_line_13 : decode prog_1_method_22_code 13 = .ok (.iload 4, 2) := F_CM_line_0.2.2.2.2.2.2.2.1
theorem d_CM_line_15 : decode prog_1_method_22_code 15 = .ok (.invokestatic 267, 3) := F_CM_line_0.2.2.2.2.2.2.2.2.1
theorem d_CM_line_18 : decode prog_1_method_22_code 18 = .ok (.ifCond .eq (11), 3) := F_CM_line_0.2.2.2.2.2.2.2.2.2.1
theorem d_CM_line_21 : decode prog_1_method_22_code 21 = .ok (.iload 5, 2) := F_CM_line_0.2.2.2.2.2.2.2.2.2.2.1
theorem d_CM_line_23 : decode prog_1_method_22_code 23 = .ok (.invokestatic 154, 3) := F_CM_line_0.2.2.2.2.2.2.2.2.2.2.2.1
theorem d_CM_line_26 : decode prog_1_method_22_code 26 = .ok (.ifCond .ne (7), 3) := F_CM_line_0.2.2.2.2.2.2.2.2.2.2.2.2.1
theorem d_CM_line_29 : decode prog_1_method_22_code 29 = .ok (.ldc2_w 270, 3) := F_CM_line_0.2.2.2.2.2.2.2.2.2.2.2.2.2.1
theorem d_CM_line_32 : decode prog_1_method_22_code 32 = .ok (.lreturn, 1) := F_CM_line_0.2.2.2.2.2.2.2.2.2.2.2.2.2.2.1
theorem d_CM_line_33 : decode prog_1_method_22_code 33 = .ok (.aload_n 0, 1) := F_CM_line_0.2.2.2.2.2.2.2.2.2.2.2.2.2.2.2.1
theorem d_CM_line_34 : decode prog_1_method_22_code 34 = .ok (.getfield 12, 3) := F_CM_line_0.2.2.2.2.2.2.2.2.2.2.2.2.2.2.2.2.1
theorem d_CM_line_37 : decode prog_1_method_22_code 37 = .ok (.getfield 157, 3) := F_CM_line_0.2.2.2.2.2.2.2.2.2.2.2.2.2.2.2.2.2.1
theorem d_CM_line_40 : decode prog_1_method_22_code 40 = .ok (.iload_n 1, 1) := F_CM_line_0.2.2.2.2.2.2.2.2.2.2.2.2.2.2.2.2.2.2.1
theorem d_CM_line_41 : decode prog_1_method_22_code 41 = .ok (.aaload, 1) := F_CM_line_0.2.2.2.2.2.2.2.2.2.2.2.2.2.2.2.2.2.2.2.1
theorem d_CM_line_42 : decode prog_1_method_22_code 42 = .ok (.aload_n 0, 1) := F_CM_line_0.2.2.2.2.2.2.2.2.2.2.2.2.2.2.2.2.2.2.2.2.1
theorem d_CM_line_43 : decode prog_1_method_22_code 43 = .ok (.getfield 65, 3) := F_CM_line_0.2.2.2.2.2.2.2.2.2.2.2.2.2.2.2.2.2.2.2.2.2.1
theorem d_CM_line_46 : decode prog_1_method_22_code 46 = .ok (.invokestatic 202, 3) := F_CM_line_0.2.2.2.2.2.2.2.2.2.2.2.2.2.2.2.2.2.2.2.2.2.2.1
theorem d_CM_line_49 : decode prog_1_method_22_code 49 = .ok (.aload_n 0, 1) := F_CM_line_0.2.2.2.2.2.2.2.2.2.2.2.2.2.2.2.2.2.2.2.2.2.2.2.1
theorem d_CM_line_50 : decode prog_1_method_22_code 50 = .ok (.getfield 65, 3) := F_CM_line_0.2.2.2.2.2.2.2.2.2.2.2.2.2.2.2.2.2.2.2.2.2.2.2.2.1
theorem d_CM_line_53 : decode prog_1_method_22_code 53 = .ok (.invokestatic 272, 3) := F_CM_line_0.2.2.2.2.2.2.2.2.2.2.2.2.2.2.2.2.2.2.2.2.2.2.2.2.2.1
theorem d_CM_line_56 : decode prog_1_method_22_code 56 = .ok (.ifCond .eq (7), 3) := F_CM_line_0.2.2.2.2.2.2.2.2.2.2.2.2.2.2.2.2.2.2.2.2.2.2.2.2.2.2.1
theorem d_CM_line_59 : decode prog_1_method_22_code 59 = .ok (.ldc2_w 275, 3) := F_CM_line_0.2.2.2.2.2.2.2.2.2.2.2.2.2.2.2.2.2.2.2.2.2.2.2.2.2.2.2.1
theorem d_CM_line_62 : decode prog_1_method_22_code 62 = .ok (.lreturn, 1) := F_CM_line_0.2.2.2.2.2.2.2.2.2.2.2.2.2.2.2.2.2.2.2.2.2.2.2.2.2.2.2.2.1
theorem d_CM_line_63 : decode prog_1_method_22_code 63 = .ok (.iload_n 2, 1) := F_CM_line_0.2.2.2.2.2.2.2.2.2.2.2.2.2.2.2.2.2.2.2.2.2.2.2.2.2.2.2.2.2.1
theorem d_CM_line_64 : decode prog_1_method_22_code 64 = .ok (.i2l, 1) := F_CM_line_0.2.2.2.2.2.2.2.2.2.2.2.2.2.2.2.2.2.2.2.2.2.2.2.2.2.2.2.2.2.2.1
theorem d_CM_line_65 : decode prog_1_method_22_code 65 = .ok (.iload_n 3, 1) := F_CM_line_0.2.2.2.2.2.2.2.2.2.2.2.2.2.2.2.2.2.2.2.2.2.2.2.2.2.2.2.2.2.2.2.1
theorem F_CM_line_66 : Jvm.Free.DS.Facts prog_1_method_22_code 66 [(.i2l, 1), (.iload 4, 2), (.i2l, 1), (.aload_n 0, 1), (.getfield 75, 3), (.invokestatic 238, 3), (.aload_n 0, 1), (.getfield 65, 3), (.aload_n 0, 1), (.getfield 75, 3), (.aload_n 0, 1), (.getfield 78, 3), (.invokestatic 277, 3), (.aload_n 0, 1), (.getfield 78, 3), (.iload 5, 2), (.laload, 1), (.lreturn, 1)] := Jvm.Free.DS.facts 66 _ (by decide +kernel) (by decide +kernel)
theorem d_CM_line_66 : decode prog_1_method_22_code 66 = .ok (.i2l, 1) := F_CM_line_66.1
theorem d_CM_line_67 : decode prog_1_method_22_code 67 = .ok (.iload 4, 2) := F_CM_line_66.2.1
theorem d_CM_line_69 : decode prog_1_method_22_code 69 = .ok (.i2l, 1) := F_CM_line_66.2.2.1
theorem d_CM_line_70 : decode prog_1_method_22_code 70 = .ok (.aload_n 0, 1) := F_CM_line_66.2.2.2.1
theorem d_CM_line_71 : decode prog_1_method_22_code 71 = .ok (.getfield 75, 3) := F_CM_line_66.2.2.2.2.1
theorem d_CM_line_74 : decode prog_1_method_22_code 74 = .ok (.invokestatic 238, 3) := F_CM_line_66.2.2.2.2.2.1
theorem d_CM_line_77 : decode prog_1_method_22_code 77 = .ok (.aload_n 0, 1) := F_CM_line_66.2.2.2.2.2.2.1
theorem d_CM_line_78 : decode prog_1_method_22_code 78 = .ok (.getfield 65, 3) := F_CM_line_66.2.2.2.2.2.2.2.1
theorem d_CM_line_81 : decode prog_1_method_22_code 81 = .ok (.aload_n 0, 1) := F_CM_line_66.2.2.2.2.2.2.2.2.1
theorem d_CM_line_82 : decode prog_1_method_22_code 82 = .ok (.getfield 75, 3) := F_CM_line_66.2.2.2.2.2.2.2.2.2.1
theorem d_CM_line_85 : decode prog_1_method_22_code 85 = .ok (.aload_n 0, 1) := F_CM_line_66.2.2.2.2.2.2.2.2.2.2.1
theorem d_CM_line_86 : decode prog_1_method_22_code 86 = .ok (.getfield 78, 3) := F_CM_line_66.2.2.2.2.2.2.2.2.2.2.2.1
theorem d_CM_line_89 : decode prog_1_method_22_code 89 = .ok (.invokestatic 277, 3) := F_CM_line_66.2.2.2.2.2.2.2.2.2.2.2.2.1
theorem d_CM_line_92 : decode prog_1_method_22_code 92 = .ok (.aload_n 0, 1) := F_CM_line_66.2.2.2.2.2.2.2.2.2.2.2.2.2.1
theorem d_CM_line_93 : decode prog_1_method_22_code 93 = .ok (.getfield 78, 3) := F_CM_line_66.2.2.2.2.2.2.2.2.2.2.2.2.2.2.1
theorem d_CM_line_96 : decode prog_1_method_22_code 96 = .ok (.iload 5, 2) := F_CM_line_66.2.2.2.2.2.2.2.2.2.2.2.2.2.2.2.1
theorem d_CM_line_98 : decode prog_1_method_22_code 98 = .ok (.laload, 1) := F_CM_line_66.2.2.2.2.2.2.2.2.2.2.2.2.2.2.2.2.1
theorem d_CM_line_99 : decode prog_1_method_22_code 99 = .ok (.lreturn, 1) := F_CM_line_66.2.2.2.2.2.2.2.2.2.2.2.2.2.2.2.2.2.1
theorem F_Maps_pullBack_0 : Jvm.Free.DS.Facts prog_3_method_5_code 0 [(.iconst 0, 1), (.istore_n 3, 1), (.iload_n 3, 1), (.iconst 3, 1), (.if_icmp .ge (40), 3), (.aload_n 2, 1), (.iload_n 3, 1), (.aload_n 0, 1), (.iload_n 3, 1), (.laload, 1), (.aload_n 1, 1), (.iconst 0, 1), (.laload, 1), (.lmul, 1), (.aload_n 0, 1), (.iconst 3, 1), (.iload_n 3, 1), (.iadd, 1), (.laload, 1), (.aload_n 1, 1), (.iconst 1, 1), (.laload, 1), (.lmul, 1), (.ladd, 1), (.aload_n 0, 1), (.bipush (6), 2), (.iload_n 3, 1), (.iadd, 1), (.laload, 1), (.aload_n 1, 1), (.iconst 2, 1), (.laload, 1)] := Jvm.Free.DS.facts 0 _ (by decide +kernel) (by decide +kernel)
theorem d_Maps_pullBack_0 : decode prog_3_method_5_code 0 = .ok (.iconst 0, 1) := F_Maps_pullBack_0.1
theorem d_Maps_pullBack_1 : decode prog_3_method_5_code 1 = .ok (.istore_n 3, 1) := F_Maps_pullBack_0.2.1
theorem d_Maps_pullBack_2 : decode prog_3_method_5_code 2 = .ok (.iload_n 3, 1) := F_Maps_pullBack_0.2.2.1
theorem d_Maps_pullBack_3 : decode prog_3_method_5_code 3 = .ok (.iconst 3, 1) := F_Maps_pullBack_0.2.2.2.1
theorem d_Maps_pullBack_4 : decode prog_3_method_5_code 4 = .ok (.if_icmp .ge (40), 3) := F_Maps_pullBack_0.2.2.2.2.1
theorem d_Maps_pullBack_7 : decode prog_3_method_5_code 7 = .ok (.aload_n 2, 1) := F_Maps_pullBack_0.2.2.2.2.2.1
theorem d_Maps_pullBack_8 : decode prog_3_method_5_code 8 = .ok (.iload_n 3, 1) := F_Maps_pullBack_0.2.2.2.2.2.2.1
theorem d_Maps_pullBack_9 : decode prog_3_method_5_code 9 = .ok (.aload_n 0, 1) := F_Maps_pullBack_0.2.2.2.2.2.2.2.1
theorem d_Maps_pullBack_10 : decode prog_3_method_5_code 10 = .ok (.iload_n 3, 1) := F_Maps_pullBack_0.2.2.2.2.2.2.2.2.1
theorem d_Maps_pullBack_11 : decode prog_3_method_5_code 11 = .ok (.laload, 1) := F_Maps_pullBack_0.2.2.2.2.2.2.2.2.2.1
theorem d_Maps_pullBack_12 : decode prog_3_method_5_code 12 = .ok (.aload_n 1, 1) := F_Maps_pullBack_0.2.2.2.2.2.2.2.2.2.2.1
theorem d_Maps_pullBack_13 : decode prog_3_method_5_code 13 = .ok (.iconst 0, 1) := F_Maps_pullBack_0.2.2.2.2.2.2.2.2.2.2.2.1
theorem d_Maps_pullBack_14 : decode prog_3_method_5_code 14 = .ok (.laload, 1) := F_Maps_pullBack_0.2.2.2.2.2.2.2.2.2.2.2.2.1
theorem d_Maps_pullBack_15 : decode prog_3_method_5_code 15 = .ok (.lmul, 1) := F_Maps_pullBack_0.2.2.2.2.2.2.2.2.2.2.2.2.2.1
theorem d_Maps_pullBack_16 : decode prog_3_method_5_code 16 = .ok (.aload_n 0, 1) := F_Maps_pullBack_0.2.2.2.2.2.2.2.2.2.2.2.2.2.2.1
theorem d_Maps_pullBack_17 : decode prog_3_method_5_code 17 = .ok (.iconst 3, 1) := F_Maps_pullBack_0.2.2.2.2.2.2.2.2.2.2.2.2.2.2.2.1
theorem d_Maps_pullBack_18 : decode prog_3_method_5_code 18 = .ok (.iload_n 3, 1) := F_Maps_pullBack_0.2.2.2.2.2.2.2.2.2.2.2.2.2.2.2.2.1
theorem d_Maps_pullBack_19 : decode prog_3_method_5_code 19 = .ok (.iadd, 1) := F_Maps_pullBack_0.2.2.2.2.2.2.2.2.2.2.2.2.2.2.2.2.2.1
theorem d_Maps_pullBack_20 : decode prog_3_method_5_code 20 = .ok (.laload, 1) := F_Maps_pullBack_0.2.2.2.2.2.2.2.2.2.2.2.2.2.2.2.2.2.2.1
theorem d_Maps_pullBack_21 : decode prog_3_method_5_code 21 = .ok (.aload_n 1, 1) := F_Maps_pullBack_0.2.2.2.2.2.2.2.2.2.2.2.2.2.2.2.2.2.2.2.1
theorem d_Maps_pullBack_22 : decode prog_3_method_5_code 22 = .ok (.iconst 1, 1) := F_Maps_pullBack_0.2.2.2.2.2.2.2.2.2.2.2.2.2.2.2.2.2.2.2.2.1
theorem d_Maps_pullBack_23 : decode prog_3_method_5_code 23 = .ok (.laload, 1) := F_Maps_pullBack_0.2.2.2.2.2.2.2.2.2.2.2.2.2.2.2.2.2.2.2.2.2.1
theorem d_Maps_pullBack_24 : decode prog_3_method_5_code 24 = .ok (.lmul, 1) := F_Maps_pullBack_0.2.2.2.2.2.2.2.2.2.2.2.2.2.2.2.2.2.2.2.2.2.2.1
theorem d_Maps_pullBack_25 : decode prog_3_method_5_code 25 = .ok (.ladd, 1) := F_Maps_pullBack_0.2.2.2.2.2.2.2.2.2.2.2.2.2.2.2.2.2.2.2.2.2.2.2.1
theorem d_Maps_pullBack_26 : decode prog_3_method_5_code 26 = .ok (.aload_n 0, 1) := F_Maps_pullBack_0.2.2.2.2.2.2.2.2.2.2.2.2.2.2.2.2.2.2.2.2.2.2.2.2.1
theorem d_Maps_pullBack_27 : decode prog_3_method_5_code 27 = .ok (.bipush (6), 2) := F_Maps_pullBack_0.2.2.2.2.2.2.2.2.2.2.2.2.2.2.2.2.2.2.2.2.2.2.2.2.2.1
theorem d_Maps_pullBack_29 : decode prog_3_method_5_code 29 = .ok (.iload_n 3, 1) := F_Maps_pullBack_0.2.2.2.2.2.2.2.2.2.2.2.2.2.2.2.2.2.2.2.2.2.2.2.2.2.2.1
theorem d_Maps_pullBack_30 : decode prog_3_method_5_code 30 = .ok (.iadd, 1) := F_Maps_pullBack_0.2.2.2.2.2.2.2.2.2.2.2.2.2.2.2.2.2.2.2.2.2.2.2.2.2.2.2.1
theorem d_Maps_pullBack_31 : decode prog_3_method_5_code 31 = .ok (.laload, 1) := F_Maps_pullBack_0.2.2.2.2.2.2.2.2.2.2.2.2.2.2.2.2.2.2.2.2.2.2.2.2.2.2.2.2.1
theorem d_Maps_pullBack_32 : decode prog_3_method_5_code 32 = .ok (.aload_n 1, 1) := F_Maps_pullBack_0.2.2.2.2.2.2.2.2.2.2.2.2.2.2.2.2.2.2.2.2.2.2.2.2.2.2.2.2.2.1
theorem d_Maps_pullBack_33 : decode prog_3_method_5_code 33 = .ok (.iconst 2, 1) := F_Maps_pullBack_0.2.2.2.2.2.2.2.2.2.2.2.2.2.2.2.2.2.2.2.2.2.2.2.2.2.2.2.2.2.2.1
theorem d_Maps_pullBack_34 : decode prog_3_method_5_code 34 = .ok (.laload, 1) := F_Maps_pullBack_0.2.2.2.2.2.2.2.2.2.2.2.2.2.2.2.2.2.2.2.2.2.2.2.2.2.2.2.2.2.2.2.1
theorem F_Maps_pullBack_35 : Jvm.Free.DS.Facts prog_3_method_5_code 35 [(.lmul, 1), (.ladd, 1), (.lastore, 1), (.iinc 3 (1), 3), (.goto (-39), 3), (.aload_n 2, 1), (.invokestatic 17, 3), (.return_, 1)] := Jvm.Free.DS.facts 35 _ (by decide +kernel) (by decide +kernel)
theorem d_Maps_pullBack_35 : decode prog_3_method_5_code 35 = .ok (.lmul, 1) := F_Maps_pullBack_35.1
theorem d_Maps_pullBack_36 : decode prog_3_method_5_code 36 = .ok (.ladd, 1) := F_Maps_pullBack_35.2.1
theorem d_Maps_pullBack_37 : decode prog_3_method_5_code 37 = .ok (.lastore, 1) := F_Maps_pullBack_35.2.2.1
theorem d_Maps_pullBack_38 : decode prog_3_method_5_code 38 = .ok (.iinc 3 (1), 3) := F_Maps_pullBack_35.2.2.2.1
theorem d_Maps_pullBack_41 : decode prog_3_method_5_code 41 = .ok (.goto (-39), 3) := F_Maps_pullBack_35.2.2.2.2.1
theorem d_Maps_pullBack_44 : decode prog_3_method_5_code 44 = .ok (.aload_n 2, 1) := F_Maps_pullBack_35.2.2.2.2.2.1
theorem d_Maps_pullBack_45 : decode prog_3_method_5_code 45 = .ok (.invokestatic 17, 3) := F_Maps_pullBack_35.2.2.2.2.2.2.1
theorem d_Maps_pullBack_48 : decode prog_3_method_5_code 48 = .ok (.return_, 1) := F_Maps_pullBack_35.2.2.2.2.2.2.2.1
theorem F_CM_horizon_0 : Jvm.Free.DS.Facts prog_1_method_23_code 0 [(.aload_n 0, 1), (.getfield 12, 3), (.iload_n 1, 1), (.invokevirtual 151, 3), (.ifCond .eq (10), 3), (.iload_n 2, 1), (.invokestatic 154, 3), (.ifCond .ne (7), 3), (.ldc2_w 270, 3), (.lreturn, 1), (.aload_n 0, 1), (.getfield 12, 3), (.getfield 157, 3), (.iload_n 1, 1), (.aaload, 1), (.getstatic 280, 3), (.aload_n 0, 1), (.getfield 78, 3), (.invokestatic 277, 3), (.aload_n 0, 1), (.getfield 78, 3), (.iload_n 2, 1), (.laload, 1), (.lreturn, 1)] := Jvm.Free.DS.facts 0 _ (by decide +kernel) (by decide +kernel)
theorem d_CM_horizon_0 : decode prog_1_method_23_code 0 = .ok (.aload_n 0, 1) := F_CM_horizon_0.1
theorem d_CM_horizon_1 : decode prog_1_method_23_code 1 = .ok (.getfield 12, 3) := F_CM_horizon_0.2.1
theorem d_CM_horizon_4 : decode prog_1_method_23_code 4 = .ok (.iload_n 1, 1) := F_CM_horizon_0.2.2.1
theorem d_CM_horizon_5 : decode prog_1_method_23_code 5 = .ok (.invokevirtual 151, 3) := F_CM_horizon_0.2.2.2.1
theorem d_CM_horizon_8 : decode prog_1_method_23_code 8 = .ok (.ifCond .eq (10), 3) := F_CM_horizon_0.2.2.2.2.1
theorem d_CM_horizon_11 : decode prog_1_method_23_code 11 = .ok (.iload_n 2, 1) := F_CM_horizon_0.2.2.2.2.2.1
theorem d_CM_horizon_12 : decode prog_1_method_23_code 12 = .ok (.invokestatic 154, 3) := F_CM_horizon_0.2.2.2.2.2.2.1
theorem d_CM_horizon_15 : decode prog_1_method_23_code 15 = .ok (.ifCond .ne (7), 3) := F_CM_horizon_0.2.2.2.2.2.2.2.1
theorem d_CM_horizon_18 : decode prog_1_method_23_code 18 = .ok (.ldc2_w 270, 3) := F_CM_horizon_0.2.2.2.2.2.2.2.2.1
theorem d_CM_horizon_21 : decode prog_1_method_23_code 21 = .ok (.lreturn, 1) := F_CM_horizon_0.2.2.2.2.2.2.2.2.2.1
theorem d_CM_horizon_22 : decode prog_1_method_23_code 22 = .ok (.aload_n 0, 1) := F_CM_horizon_0.2.2.2.2.2.2.2.2.2.2.1
theorem d_CM_horizon_23 : decode prog_1_method_23_code 23 = .ok (.getfield 12, 3) := F_CM_horizon_0.2.2.2.2.2.2.2.2.2.2.2.1
theorem d_CM_horizon_26 : decode prog_1_method_23_code 26 = .ok (.getfield 157, 3) := F_CM_horizon_0.2.2.2.2.2.2.2.2.2.2.2.2.1
theorem d_CM_horizon_29 : decode prog_1_method_23_code 29 = .ok (.iload_n 1, 1) := F_CM_horizon_0.2.2.2.2.2.2.2.2.2.2.2.2.2.1
theorem d_CM_horizon_30 : decode prog_1_method_23_code 30 = .ok (.aaload, 1) := F_CM_horizon_0.2.2.2.2.2.2.2.2.2.2.2.2.2.2.1
theorem d_CM_horizon_31 : decode prog_1_method_23_code 31 = .ok (.getstatic 280, 3) := F_CM_horizon_0.2.2.2.2.2.2.2.2.2.2.2.2.2.2.2.1
theorem d_CM_horizon_34 : decode prog_1_method_23_code 34 = .ok (.aload_n 0, 1) := F_CM_horizon_0.2.2.2.2.2.2.2.2.2.2.2.2.2.2.2.2.1
theorem d_CM_horizon_35 : decode prog_1_method_23_code 35 = .ok (.getfield 78, 3) := F_CM_horizon_0.2.2.2.2.2.2.2.2.2.2.2.2.2.2.2.2.2.1
theorem d_CM_horizon_38 : decode prog_1_method_23_code 38 = .ok (.invokestatic 277, 3) := F_CM_horizon_0.2.2.2.2.2.2.2.2.2.2.2.2.2.2.2.2.2.2.1
theorem d_CM_horizon_41 : decode prog_1_method_23_code 41 = .ok (.aload_n 0, 1) := F_CM_horizon_0.2.2.2.2.2.2.2.2.2.2.2.2.2.2.2.2.2.2.2.1
theorem d_CM_horizon_42 : decode prog_1_method_23_code 42 = .ok (.getfield 78, 3) := F_CM_horizon_0.2.2.2.2.2.2.2.2.2.2.2.2.2.2.2.2.2.2.2.2.1
theorem d_CM_horizon_45 : decode prog_1_method_23_code 45 = .ok (.iload_n 2, 1) := F_CM_horizon_0.2.2.2.2.2.2.2.2.2.2.2.2.2.2.2.2.2.2.2.2.2.1
theorem d_CM_horizon_46 : decode prog_1_method_23_code 46 = .ok (.laload, 1) := F_CM_horizon_0.2.2.2.2.2.2.2.2.2.2.2.2.2.2.2.2.2.2.2.2.2.2.1
theorem d_CM_horizon_47 : decode prog_1_method_23_code 47 = .ok (.lreturn, 1) := F_CM_horizon_0.2.2.2.2.2.2.2.2.2.2.2.2.2.2.2.2.2.2.2.2.2.2.2.1
theorem F_CM_vanishing_0 : Jvm.Free.DS.Facts prog_1_method_24_code 0 [(.aload_n 0, 1), (.getfield 12, 3), (.iload_n 1, 1), (.invokevirtual 151, 3), (.ifCond .eq (10), 3), (.iload_n 2, 1), (.invokestatic 154, 3), (.ifCond .ne (7), 3), (.ldc2_w 270, 3), (.lreturn, 1), (.aload_n 0, 1), (.getfield 12, 3), (.getfield 157, 3), (.iload_n 1, 1), (.aaload, 1), (.aload_n 0, 1), (.getfield 65, 3), (.invokestatic 202, 3), (.aload_n 0, 1), (.getfield 65, 3), (.getstatic 280, 3), (.aload_n 0, 1), (.getfield 78, 3), (.invokestatic 277, 3), (.aload_n 0, 1), (.getfield 78, 3), (.iload_n 2, 1), (.laload, 1), (.lreturn, 1)] := Jvm.Free.DS.facts 0 _ (by decide +kernel) (by decide +kernel)
theorem d_CM_vanishing_0 : decode prog_1_method_24_code 0 = .ok (.aload_n 0, 1) := F_CM_vanishing_0.1
theorem d_CM_vanishing_1 : decode prog_1_method_24_code 1 = .ok (.getfield 12, 3) := F_CM_vanishing_0.2.1
theorem d_CM_vanishing_4 : decode prog_1_method_24_code 4 = .ok (.iload_n 1, 1) := F_CM_vanishing_0.2.2.1
theorem d_CM_vanishing_5 : decode prog_1_method_24_code 5 = .ok (.invokevirtual 151, 3) := F_CM_vanishing_0.2.2.2.1
theorem d_CM_vanishing_8 : decode prog_1_method_24_code 8 = .ok (.ifCond .eq (10), 3) := F_CM_vanishing_0.2.2.2.2.1
theorem d_CM_vanishing_11 : decode prog_1_method_24_code 11 = .ok (.iload_n 2, 1) := F_CM_vanishing_0.2.2.2.2.2.1
theorem d_CM_vanishing_12 : decode prog_1_method_24_code 12 = .ok (.invokestatic 154, 3) := F_CM_vanishing_0.2.2.2.2.2.2.1
theorem d_CM_vanishing_15 : decode prog_1_method_24_code 15 = .ok (.ifCond .ne (7), 3) := F_CM_vanishing_0.2.2.2.2.2.2.2.1
theorem d_CM_vanishing_18 : decode prog_1_method_24_code 18 = .ok (.ldc2_w 270, 3) := F_CM_vanishing_0.2.2.2.2.2.2.2.2.1
theorem d_CM_vanishing_21 : decode prog_1_method_24_code 21 = .ok (.lreturn, 1) := F_CM_vanishing_0.2.2.2.2.2.2.2.2.2.1
theorem d_CM_vanishing_22 : decode prog_1_method_24_code 22 = .ok (.aload_n 0, 1) := F_CM_vanishing_0.2.2.2.2.2.2.2.2.2.2.1
theorem d_CM_vanishing_23 : decode prog_1_method_24_code 23 = .ok (.getfield 12, 3) := F_CM_vanishing_0.2.2.2.2.2.2.2.2.2.2.2.1
theorem d_CM_vanishing_26 : decode prog_1_method_24_code 26 = .ok (.getfield 157, 3) := F_CM_vanishing_0.2.2.2.2.2.2.2.2.2.2.2.2.1
theorem d_CM_vanishing_29 : decode prog_1_method_24_code 29 = .ok (.iload_n 1, 1) := F_CM_vanishing_0.2.2.2.2.2.2.2.2.2.2.2.2.2.1
theorem d_CM_vanishing_30 : decode prog_1_method_24_code 30 = .ok (.aaload, 1) := F_CM_vanishing_0.2.2.2.2.2.2.2.2.2.2.2.2.2.2.1
theorem d_CM_vanishing_31 : decode prog_1_method_24_code 31 = .ok (.aload_n 0, 1) := F_CM_vanishing_0.2.2.2.2.2.2.2.2.2.2.2.2.2.2.2.1
theorem d_CM_vanishing_32 : decode prog_1_method_24_code 32 = .ok (.getfield 65, 3) := F_CM_vanishing_0.2.2.2.2.2.2.2.2.2.2.2.2.2.2.2.2.1
theorem d_CM_vanishing_35 : decode prog_1_method_24_code 35 = .ok (.invokestatic 202, 3) := F_CM_vanishing_0.2.2.2.2.2.2.2.2.2.2.2.2.2.2.2.2.2.1
theorem d_CM_vanishing_38 : decode prog_1_method_24_code 38 = .ok (.aload_n 0, 1) := F_CM_vanishing_0.2.2.2.2.2.2.2.2.2.2.2.2.2.2.2.2.2.2.1
theorem d_CM_vanishing_39 : decode prog_1_method_24_code 39 = .ok (.getfield 65, 3) := F_CM_vanishing_0.2.2.2.2.2.2.2.2.2.2.2.2.2.2.2.2.2.2.2.1
theorem d_CM_vanishing_42 : decode prog_1_method_24_code 42 = .ok (.getstatic 280, 3) := F_CM_vanishing_0.2.2.2.2.2.2.2.2.2.2.2.2.2.2.2.2.2.2.2.2.1
theorem d_CM_vanishing_45 : decode prog_1_method_24_code 45 = .ok (.aload_n 0, 1) := F_CM_vanishing_0.2.2.2.2.2.2.2.2.2.2.2.2.2.2.2.2.2.2.2.2.2.1
theorem d_CM_vanishing_46 : decode prog_1_method_24_code 46 = .ok (.getfield 78, 3) := F_CM_vanishing_0.2.2.2.2.2.2.2.2.2.2.2.2.2.2.2.2.2.2.2.2.2.2.1
theorem d_CM_vanishing_49 : decode prog_1_method_24_code 49 = .ok (.invokestatic 277, 3) := F_CM_vanishing_0.2.2.2.2.2.2.2.2.2.2.2.2.2.2.2.2.2.2.2.2.2.2.2.1
theorem d_CM_vanishing_52 : decode prog_1_method_24_code 52 = .ok (.aload_n 0, 1) := F_CM_vanishing_0.2.2.2.2.2.2.2.2.2.2.2.2.2.2.2.2.2.2.2.2.2.2.2.2.1
theorem d_CM_vanishing_53 : decode prog_1_method_24_code 53 = .ok (.getfield 78, 3) := F_CM_vanishing_0.2.2.2.2.2.2.2.2.2.2.2.2.2.2.2.2.2.2.2.2.2.2.2.2.2.1
theorem d_CM_vanishing_56 : decode prog_1_method_24_code 56 = .ok (.iload_n 2, 1) := F_CM_vanishing_0.2.2.2.2.2.2.2.2.2.2.2.2.2.2.2.2.2.2.2.2.2.2.2.2.2.2.1
theorem d_CM_vanishing_57 : decode prog_1_method_24_code 57 = .ok (.laload, 1) := F_CM_vanishing_0.2.2.2.2.2.2.2.2.2.2.2.2.2.2.2.2.2.2.2.2.2.2.2.2.2.2.2.1
theorem d_CM_vanishing_58 : decode prog_1_method_24_code 58 = .ok (.lreturn, 1) := F_CM_vanishing_0.2.2.2.2.2.2.2.2.2.2.2.2.2.2.2.2.2.2.2.2.2.2.2.2.2.2.2.2.1
theorem F_CM_cut_0 : Jvm.Free.DS.Facts prog_1_method_25_code 0 [(.aload_n 0, 1), (.getfield 12, 3), (.iload_n 1, 1), (.invokevirtual 151, 3), (.ifCond .eq (25), 3), (.aload_n 0, 1), (.getfield 12, 3), (.iload_n 2, 1), (.invokevirtual 160, 3), (.ifCond .eq (14), 3), (.aload_n 0, 1), (.getfield 12, 3), (.iload_n 3, 1), (.invokevirtual 160, 3), (.ifCond .ne (5), 3), (.iconst (-1), 1), (.ireturn, 1), (.aload_n 0, 1), (.getfield 12, 3), (.getfield 163, 3), (.iload_n 2, 1), (.aaload, 1), (.invokestatic 283, 3), (.ifCond .eq (18), 3), (.aload_n 0, 1), (.getfield 12, 3), (.getfield 163, 3), (.iload_n 3, 1), (.aaload, 1), (.invokestatic 283, 3), (.ifCond .ne (6), 3), (.bipush (-2), 2)] := Jvm.Free.DS.facts 0 _ (by decide +kernel) (by decide +kernel)
theorem d_CM_cut_0 : decode prog_1_method_25_code 0 = .ok (.aload_n 0, 1) := F_CM_cut_0.1
theorem d_CM_cut_1 : decode prog_1_method_25_code 1 = .ok (.getfield 12, 3) := F_CM_cut_0.2.1
theorem d_CM_cut_4 : decode prog_1_method_25_code 4 = .ok (.iload_n 1, 1) := F_CM_cut_0.2.2.1
theorem d_CM_cut_5 : decode prog_1_method_25_code 5 = .ok (.invokevirtual 151, 3) := F_CM_cut_0.2.2.2.1
theorem d_CM_cut_8 : decode prog_1_method_25_code 8 = .ok (.ifCond .eq (25), 3) := F_CM_cut_0.2.2.2.2.1
theorem d_CM_cut_11 : decode prog_1_method_25_code 11 = .ok (.aload_n 0, 1) := F_CM_cut_0.2.2.2.2.2.1
theorem d_CM_cut_12 : decode prog_1_method_25_code 12 = .ok (.getfield 12, 3) := F_CM_cut_0.2.2.2.2.2.2.1
theorem d_CM_cut_15 : decode prog_1_method_25_code 15 = .ok (.iload_n 2, 1) := F_CM_cut_0.2.2.2.2.2.2.2.1
theorem d_CM_cut_16 : decode prog_1_method_25_code 16 = .ok (.invokevirtual 160, 3) := F_CM_cut_0.2.2.2.2.2.2.2.2.1
theorem d_CM_cut_19 : decode prog_1_method_25_code 19 = .ok (.ifCond .eq (14), 3) := F_CM_cut_0.2.2.2.2.2.2.2.2.2.1
theorem d_CM_cut_22 : decode prog_1_method_25_code 22 = .ok (.aload_n 0, 1) := F_CM_cut_0.2.2.2.2.2.2.2.2.2.2.1
theorem d_CM_cut_23 : decode prog_1_method_25_code 23 = .ok (.getfield 12, 3) := F_CM_cut_0.2.2.2.2.2.2.2.2.2.2.2.1
theorem d_CM_cut_26 : decode prog_1_method_25_code 26 = .ok (.iload_n 3, 1) := F_CM_cut_0.2.2.2.2.2.2.2.2.2.2.2.2.1
theorem d_CM_cut_27 : decode prog_1_method_25_code 27 = .ok (.invokevirtual 160, 3) := F_CM_cut_0.2.2.2.2.2.2.2.2.2.2.2.2.2.1
theorem d_CM_cut_30 : decode prog_1_method_25_code 30 = .ok (.ifCond .ne (5), 3) := F_CM_cut_0.2.2.2.2.2.2.2.2.2.2.2.2.2.2.1
theorem d_CM_cut_33 : decode prog_1_method_25_code 33 = .ok (.iconst (-1), 1) := F_CM_cut_0.2.2.2.2.2.2.2.2.2.2.2.2.2.2.2.1
theorem d_CM_cut_34 : decode prog_1_method_25_code 34 = .ok (.ireturn, 1) := F_CM_cut_0.2.2.2.2.2.2.2.2.2.2.2.2.2.2.2.2.1
theorem d_CM_cut_35 : decode prog_1_method_25_code 35 = .ok (.aload_n 0, 1) := F_CM_cut_0.2.2.2.2.2.2.2.2.2.2.2.2.2.2.2.2.2.1
theorem d_CM_cut_36 : decode prog_1_method_25_code 36 = .ok (.getfield 12, 3) := F_CM_cut_0.2.2.2.2.2.2.2.2.2.2.2.2.2.2.2.2.2.2.1
theorem d_CM_cut_39 : decode prog_1_method_25_code 39 = .ok (.getfield 163, 3) := F_CM_cut_0.2.2.2.2.2.2.2.2.2.2.2.2.2.2.2.2.2.2.2.1
theorem d_CM_cut_42 : decode prog_1_method_25_code 42 = .ok (.iload_n 2, 1) := F_CM_cut_0.2.2.2.2.2.2.2.2.2.2.2.2.2.2.2.2.2.2.2.2.1
theorem d_CM_cut_43 : decode prog_1_method_25_code 43 = .ok (.aaload, 1) := F_CM_cut_0.2.2.2.2.2.2.2.2.2.2.2.2.2.2.2.2.2.2.2.2.2.1
theorem d_CM_cut_44 : decode prog_1_method_25_code 44 = .ok (.invokestatic 283, 3) := F_CM_cut_0.2.2.2.2.2.2.2.2.2.2.2.2.2.2.2.2.2.2.2.2.2.2.1
theorem d_CM_cut_47 : decode prog_1_method_25_code 47 = .ok (.ifCond .eq (18), 3) := F_CM_cut_0.2.2.2.2.2.2.2.2.2.2.2.2.2.2.2.2.2.2.2.2.2.2.2.1
theorem d_CM_cut_50 : decode prog_1_method_25_code 50 = .ok (.aload_n 0, 1) := F_CM_cut_0.2.2.2.2.2.2.2.2.2.2.2.2.2.2.2.2.2.2.2.2.2.2.2.2.1
theorem d_CM_cut_51 : decode prog_1_method_25_code 51 = .ok (.getfield 12, 3) := F_CM_cut_0.2.2.2.2.2.2.2.2.2.2.2.2.2.2.2.2.2.2.2.2.2.2.2.2.2.1
theorem d_CM_cut_54 : decode prog_1_method_25_code 54 = .ok (.getfield 163, 3) := F_CM_cut_0.2.2.2.2.2.2.2.2.2.2.2.2.2.2.2.2.2.2.2.2.2.2.2.2.2.2.1
theorem d_CM_cut_57 : decode prog_1_method_25_code 57 = .ok (.iload_n 3, 1) := F_CM_cut_0.2.2.2.2.2.2.2.2.2.2.2.2.2.2.2.2.2.2.2.2.2.2.2.2.2.2.2.1
theorem d_CM_cut_58 : decode prog_1_method_25_code 58 = .ok (.aaload, 1) := F_CM_cut_0.2.2.2.2.2.2.2.2.2.2.2.2.2.2.2.2.2.2.2.2.2.2.2.2.2.2.2.2.1
theorem d_CM_cut_59 : decode prog_1_method_25_code 59 = .ok (.invokestatic 283, 3) := F_CM_cut_0.2.2.2.2.2.2.2.2.2.2.2.2.2.2.2.2.2.2.2.2.2.2.2.2.2.2.2.2.2.1
theorem d_CM_cut_62 : decode prog_1_method_25_code 62 = .ok (.ifCond .ne (6), 3) := F_CM_cut_0.2.2.2.2.2.2.2.2.2.2.2.2.2.2.2.2.2.2.2.2.2.2.2.2.2.2.2.2.2.2.1
theorem d_CM_cut_65 : decode prog_1_method_25_code 65 = .ok (.bipush (-2), 2) := F_CM_cut_0.2.2.2.2.2.2.2.2.2.2.2.2.2.2.2.2.2.2.2.2.2.2.2.2.2.2.2.2.2.2.2.1
theorem F_CM_cut_67 : Jvm.Free.DS.Facts prog_1_method_25_code 67 [(.ireturn, 1), (.aload_n 0, 1), (.getfield 12, 3), (.getfield 157, 3), (.iload_n 1, 1), (.aaload, 1), (.aload_n 0, 1), (.getfield 12, 3), (.getfield 163, 3), (.iload_n 2, 1), (.aaload, 1), (.aload_n 0, 1), (.getfield 12, 3), (.getfield 163, 3), (.iload_n 3, 1), (.aaload, 1), (.invokestatic 286, 3), (.invokestatic 290, 3), (.ireturn, 1)] := Jvm.Free.DS.facts 67 _ (by decide +kernel) (by decide +kernel)
theorem d_CM_cut_67 : decode prog_1_method_25_code 67 = .ok (.ireturn, 1) := F_CM_cut_67.1
theorem d_CM_cut_68 : decode prog_1_method_25_code 68 = .ok (.aload_n 0, 1) := F_CM_cut_67.2.1
theorem d_CM_cut_69 : decode prog_1_method_25_code 69 = .ok (.getfield 12, 3) := F_CM_cut_67.2.2.1
theorem d_CM_cut_72 : decode prog_1_method_25_code 72 = .ok (.getfield 157, 3) := F_CM_cut_67.2.2.2.1
theorem d_CM_cut_75 : decode prog_1_method_25_code 75 = .ok (.iload_n 1, 1) := F_CM_cut_67.2.2.2.2.1
theorem d_CM_cut_76 : decode prog_1_method_25_code 76 = .ok (.aaload, 1) := F_CM_cut_67.2.2.2.2.2.1
theorem d_CM_cut_77 : decode prog_1_method_25_code 77 = .ok (.aload_n 0, 1) := F_CM_cut_67.2.2.2.2.2.2.1
theorem d_CM_cut_78 : decode prog_1_method_25_code 78 = .ok (.getfield 12, 3) := F_CM_cut_67.2.2.2.2.2.2.2.1
theorem d_CM_cut_81 : decode prog_1_method_25_code 81 = .ok (.getfield 163, 3) := F_CM_cut_67.2.2.2.2.2.2.2.2.1
theorem d_CM_cut_84 : decode prog_1_method_25_code 84 = .ok (.iload_n 2, 1) := F_CM_cut_67.2.2.2.2.2.2.2.2.2.1
theorem d_CM_cut_85 : decode prog_1_method_25_code 85 = .ok (.aaload, 1) := F_CM_cut_67.2.2.2.2.2.2.2.2.2.2.1
theorem d_CM_cut_86 : decode prog_1_method_25_code 86 = .ok (.aload_n 0, 1) := F_CM_cut_67.2.2.2.2.2.2.2.2.2.2.2.1
theorem d_CM_cut_87 : decode prog_1_method_25_code 87 = .ok (.getfield 12, 3) := F_CM_cut_67.2.2.2.2.2.2.2.2.2.2.2.2.1
theorem d_CM_cut_90 : decode prog_1_method_25_code 90 = .ok (.getfield 163, 3) := F_CM_cut_67.2.2.2.2.2.2.2.2.2.2.2.2.2.1
theorem d_CM_cut_93 : decode prog_1_method_25_code 93 = .ok (.iload_n 3, 1) := F_CM_cut_67.2.2.2.2.2.2.2.2.2.2.2.2.2.2.1
theorem d_CM_cut_94 : decode prog_1_method_25_code 94 = .ok (.aaload, 1) := F_CM_cut_67.2.2.2.2.2.2.2.2.2.2.2.2.2.2.2.1
theorem d_CM_cut_95 : decode prog_1_method_25_code 95 = .ok (.invokestatic 286, 3) := F_CM_cut_67.2.2.2.2.2.2.2.2.2.2.2.2.2.2.2.2.1
theorem d_CM_cut_98 : decode prog_1_method_25_code 98 = .ok (.invokestatic 290, 3) := F_CM_cut_67.2.2.2.2.2.2.2.2.2.2.2.2.2.2.2.2.2.1
theorem d_CM_cut_101 : decode prog_1_method_25_code 101 = .ok (.ireturn, 1) := F_CM_cut_67.2.2.2.2.2.2.2.2.2.2.2.2.2.2.2.2.2.2.1
theorem F_Plane_hasPoint_0 : Jvm.Free.DS.Facts prog_6_method_5_code 0 [(.iload_n 1, 1), (.ifCond .lt (15), 3), (.iload_n 1, 1), (.aload_n 0, 1), (.getfield 36, 3), (.if_icmp .ge (7), 3), (.iconst 1, 1), (.goto (4), 3), (.iconst 0, 1), (.ireturn, 1)] := Jvm.Free.DS.facts 0 _ (by decide +kernel) (by decide +kernel)
theorem d_Plane_hasPoint_0 : decode prog_6_method_5_code 0 = .ok (.iload_n 1, 1) := F_Plane_hasPoint_0.1
theorem d_Plane_hasPoint_1 : decode prog_6_method_5_code 1 = .ok (.ifCond .lt (15), 3) := F_Plane_hasPoint_0.2.1
theorem d_Plane_hasPoint_4 : decode prog_6_method_5_code 4 = .ok (.iload_n 1, 1) := F_Plane_hasPoint_0.2.2.1
theorem d_Plane_hasPoint_5 : decode prog_6_method_5_code 5 = .ok (.aload_n 0, 1) := F_Plane_hasPoint_0.2.2.2.1
theorem d_Plane_hasPoint_6 : decode prog_6_method_5_code 6 = .ok (.getfield 36, 3) := F_Plane_hasPoint_0.2.2.2.2.1
theorem d_Plane_hasPoint_9 : decode prog_6_method_5_code 9 = .ok (.if_icmp .ge (7), 3) := F_Plane_hasPoint_0.2.2.2.2.2.1
theorem d_Plane_hasPoint_12 : decode prog_6_method_5_code 12 = .ok (.iconst 1, 1) := F_Plane_hasPoint_0.2.2.2.2.2.2.1
theorem d_Plane_hasPoint_13 : decode prog_6_method_5_code 13 = .ok (.goto (4), 3) := F_Plane_hasPoint_0.2.2.2.2.2.2.2.1
theorem d_Plane_hasPoint_16 : decode prog_6_method_5_code 16 = .ok (.iconst 0, 1) := F_Plane_hasPoint_0.2.2.2.2.2.2.2.2.1
theorem d_Plane_hasPoint_17 : decode prog_6_method_5_code 17 = .ok (.ireturn, 1) := F_Plane_hasPoint_0.2.2.2.2.2.2.2.2.2.1
theorem F_Maps_cuts_0 : Jvm.Free.DS.Facts prog_3_method_6_code 0 [(.aload_n 0, 1), (.aload_n 1, 1), (.invokestatic 21, 3), (.invokestatic 27, 3), (.aload_n 0, 1), (.aload_n 2, 1), (.invokestatic 21, 3), (.invokestatic 27, 3), (.imul, 1), (.ifCond .gt (7), 3), (.iconst 1, 1), (.goto (4), 3), (.iconst 0, 1), (.ireturn, 1)] := Jvm.Free.DS.facts 0 _ (by decide +kernel) (by decide +kernel)
theorem d_Maps_cuts_0 : decode prog_3_method_6_code 0 = .ok (.aload_n 0, 1) := F_Maps_cuts_0.1
theorem d_Maps_cuts_1 : decode prog_3_method_6_code 1 = .ok (.aload_n 1, 1) := F_Maps_cuts_0.2.1
theorem d_Maps_cuts_2 : decode prog_3_method_6_code 2 = .ok (.invokestatic 21, 3) := F_Maps_cuts_0.2.2.1
theorem d_Maps_cuts_5 : decode prog_3_method_6_code 5 = .ok (.invokestatic 27, 3) := F_Maps_cuts_0.2.2.2.1
theorem d_Maps_cuts_8 : decode prog_3_method_6_code 8 = .ok (.aload_n 0, 1) := F_Maps_cuts_0.2.2.2.2.1
theorem d_Maps_cuts_9 : decode prog_3_method_6_code 9 = .ok (.aload_n 2, 1) := F_Maps_cuts_0.2.2.2.2.2.1
theorem d_Maps_cuts_10 : decode prog_3_method_6_code 10 = .ok (.invokestatic 21, 3) := F_Maps_cuts_0.2.2.2.2.2.2.1
theorem d_Maps_cuts_13 : decode prog_3_method_6_code 13 = .ok (.invokestatic 27, 3) := F_Maps_cuts_0.2.2.2.2.2.2.2.1
theorem d_Maps_cuts_16 : decode prog_3_method_6_code 16 = .ok (.imul, 1) := F_Maps_cuts_0.2.2.2.2.2.2.2.2.1
theorem d_Maps_cuts_17 : decode prog_3_method_6_code 17 = .ok (.ifCond .gt (7), 3) := F_Maps_cuts_0.2.2.2.2.2.2.2.2.2.1
theorem d_Maps_cuts_20 : decode prog_3_method_6_code 20 = .ok (.iconst 1, 1) := F_Maps_cuts_0.2.2.2.2.2.2.2.2.2.2.1
theorem d_Maps_cuts_21 : decode prog_3_method_6_code 21 = .ok (.goto (4), 3) := F_Maps_cuts_0.2.2.2.2.2.2.2.2.2.2.2.1
theorem d_Maps_cuts_24 : decode prog_3_method_6_code 24 = .ok (.iconst 0, 1) := F_Maps_cuts_0.2.2.2.2.2.2.2.2.2.2.2.2.1
theorem d_Maps_cuts_25 : decode prog_3_method_6_code 25 = .ok (.ireturn, 1) := F_Maps_cuts_0.2.2.2.2.2.2.2.2.2.2.2.2.2.1
theorem F_Maps_height_0 : Jvm.Free.DS.Facts prog_3_method_3_code 0 [(.aload_n 0, 1), (.bipush (6), 2), (.laload, 1), (.aload_n 1, 1), (.iconst 0, 1), (.laload, 1), (.lmul, 1), (.aload_n 0, 1), (.bipush (7), 2), (.laload, 1), (.aload_n 1, 1), (.iconst 1, 1), (.laload, 1), (.lmul, 1), (.ladd, 1), (.aload_n 0, 1), (.bipush (8), 2), (.laload, 1), (.aload_n 1, 1), (.iconst 2, 1), (.laload, 1), (.lmul, 1), (.ladd, 1), (.lreturn, 1)] := Jvm.Free.DS.facts 0 _ (by decide +kernel) (by decide +kernel)
theorem d_Maps_height_0 : decode prog_3_method_3_code 0 = .ok (.aload_n 0, 1) := F_Maps_height_0.1
theorem d_Maps_height_1 : decode prog_3_method_3_code 1 = .ok (.bipush (6), 2) := F_Maps_height_0.2.1
theorem d_Maps_height_3 : decode prog_3_method_3_code 3 = .ok (.laload, 1) := F_Maps_height_0.2.2.1
theorem d_Maps_height_4 : decode prog_3_method_3_code 4 = .ok (.aload_n 1, 1) := F_Maps_height_0.2.2.2.1
theorem d_Maps_height_5 : decode prog_3_method_3_code 5 = .ok (.iconst 0, 1) := F_Maps_height_0.2.2.2.2.1
theorem d_Maps_height_6 : decode prog_3_method_3_code 6 = .ok (.laload, 1) := F_Maps_height_0.2.2.2.2.2.1
theorem d_Maps_height_7 : decode prog_3_method_3_code 7 = .ok (.lmul, 1) := F_Maps_height_0.2.2.2.2.2.2.1
theorem d_Maps_height_8 : decode prog_3_method_3_code 8 = .ok (.aload_n 0, 1) := F_Maps_height_0.2.2.2.2.2.2.2.1
theorem d_Maps_height_9 : decode prog_3_method_3_code 9 = .ok (.bipush (7), 2) := F_Maps_height_0.2.2.2.2.2.2.2.2.1
theorem d_Maps_height_11 : decode prog_3_method_3_code 11 = .ok (.laload, 1) := F_Maps_height_0.2.2.2.2.2.2.2.2.2.1
theorem d_Maps_height_12 : decode prog_3_method_3_code 12 = .ok (.aload_n 1, 1) := F_Maps_height_0.2.2.2.2.2.2.2.2.2.2.1
theorem d_Maps_height_13 : decode prog_3_method_3_code 13 = .ok (.iconst 1, 1) := F_Maps_height_0.2.2.2.2.2.2.2.2.2.2.2.1
theorem d_Maps_height_14 : decode prog_3_method_3_code 14 = .ok (.laload, 1) := F_Maps_height_0.2.2.2.2.2.2.2.2.2.2.2.2.1
theorem d_Maps_height_15 : decode prog_3_method_3_code 15 = .ok (.lmul, 1) := F_Maps_height_0.2.2.2.2.2.2.2.2.2.2.2.2.2.1
theorem d_Maps_height_16 : decode prog_3_method_3_code 16 = .ok (.ladd, 1) := F_Maps_height_0.2.2.2.2.2.2.2.2.2.2.2.2.2.2.1
theorem d_Maps_height_17 : decode prog_3_method_3_code 17 = .ok (.aload_n 0, 1) := F_Maps_height_0.2.2.2.2.2.2.2.2.2.2.2.2.2.2.2.1
theorem d_Maps_height_18 : decode prog_3_method_3_code 18 = .ok (.bipush (8), 2) := F_Maps_height_0.2.2.2.2.2.2.2.2.2.2.2.2.2.2.2.2.1
theorem d_Maps_height_20 : decode prog_3_method_3_code 20 = .ok (.laload, 1) := F_Maps_height_0.2.2.2.2.2.2.2.2.2.2.2.2.2.2.2.2.2.1
theorem d_Maps_height_21 : decode prog_3_method_3_code 21 = .ok (.aload_n 1, 1) := F_Maps_height_0.2.2.2.2.2.2.2.2.2.2.2.2.2.2.2.2.2.2.1
theorem d_Maps_height_22 : decode prog_3_method_3_code 22 = .ok (.iconst 2, 1) := F_Maps_height_0.2.2.2.2.2.2.2.2.2.2.2.2.2.2.2.2.2.2.2.1
theorem d_Maps_height_23 : decode prog_3_method_3_code 23 = .ok (.laload, 1) := F_Maps_height_0.2.2.2.2.2.2.2.2.2.2.2.2.2.2.2.2.2.2.2.2.1
theorem d_Maps_height_24 : decode prog_3_method_3_code 24 = .ok (.lmul, 1) := F_Maps_height_0.2.2.2.2.2.2.2.2.2.2.2.2.2.2.2.2.2.2.2.2.2.1
theorem d_Maps_height_25 : decode prog_3_method_3_code 25 = .ok (.ladd, 1) := F_Maps_height_0.2.2.2.2.2.2.2.2.2.2.2.2.2.2.2.2.2.2.2.2.2.2.1
theorem d_Maps_height_26 : decode prog_3_method_3_code 26 = .ok (.lreturn, 1) := F_Maps_height_0.2.2.2.2.2.2.2.2.2.2.2.2.2.2.2.2.2.2.2.2.2.2.2.1
theorem F_Rows_sign_0 : Jvm.Free.DS.Facts prog_9_method_3_code 0 [(.lload_n 0, 1), (.lconst 0, 1), (.lcmp, 1), (.ifCond .le (7), 3), (.iconst 1, 1), (.goto (14), 3), (.lload_n 0, 1), (.lconst 0, 1), (.lcmp, 1), (.ifCond .ge (7), 3), (.iconst (-1), 1), (.goto (4), 3), (.iconst 0, 1), (.ireturn, 1)] := Jvm.Free.DS.facts 0 _ (by decide +kernel) (by decide +kernel)
theorem d_Rows_sign_0 : decode prog_9_method_3_code 0 = .ok (.lload_n 0, 1) := F_Rows_sign_0.1
theorem d_Rows_sign_1 : decode prog_9_method_3_code 1 = .ok (.lconst 0, 1) := F_Rows_sign_0.2.1
theorem d_Rows_sign_2 : decode prog_9_method_3_code 2 = .ok (.lcmp, 1) := F_Rows_sign_0.2.2.1
theorem d_Rows_sign_3 : decode prog_9_method_3_code 3 = .ok (.ifCond .le (7), 3) := F_Rows_sign_0.2.2.2.1
theorem d_Rows_sign_6 : decode prog_9_method_3_code 6 = .ok (.iconst 1, 1) := F_Rows_sign_0.2.2.2.2.1
theorem d_Rows_sign_7 : decode prog_9_method_3_code 7 = .ok (.goto (14), 3) := F_Rows_sign_0.2.2.2.2.2.1
theorem d_Rows_sign_10 : decode prog_9_method_3_code 10 = .ok (.lload_n 0, 1) := F_Rows_sign_0.2.2.2.2.2.2.1
theorem d_Rows_sign_11 : decode prog_9_method_3_code 11 = .ok (.lconst 0, 1) := F_Rows_sign_0.2.2.2.2.2.2.2.1
theorem d_Rows_sign_12 : decode prog_9_method_3_code 12 = .ok (.lcmp, 1) := F_Rows_sign_0.2.2.2.2.2.2.2.2.1
theorem d_Rows_sign_13 : decode prog_9_method_3_code 13 = .ok (.ifCond .ge (7), 3) := F_Rows_sign_0.2.2.2.2.2.2.2.2.2.1
theorem d_Rows_sign_16 : decode prog_9_method_3_code 16 = .ok (.iconst (-1), 1) := F_Rows_sign_0.2.2.2.2.2.2.2.2.2.2.1
theorem d_Rows_sign_17 : decode prog_9_method_3_code 17 = .ok (.goto (4), 3) := F_Rows_sign_0.2.2.2.2.2.2.2.2.2.2.2.1
theorem d_Rows_sign_20 : decode prog_9_method_3_code 20 = .ok (.iconst 0, 1) := F_Rows_sign_0.2.2.2.2.2.2.2.2.2.2.2.2.1
theorem d_Rows_sign_21 : decode prog_9_method_3_code 21 = .ok (.ireturn, 1) := F_Rows_sign_0.2.2.2.2.2.2.2.2.2.2.2.2.2.1
theorem F_CM_bit_0 : Jvm.Free.DS.Facts prog_1_method_82_code 0 [(.iload_n 0, 1), (.ifCond .eq (7), 3), (.iconst 1, 1), (.goto (4), 3), (.iconst 0, 1), (.ireturn, 1)] := Jvm.Free.DS.facts 0 _ (by decide +kernel) (by decide +kernel)
theorem d_CM_bit_0 : decode prog_1_method_82_code 0 = .ok (.iload_n 0, 1) := F_CM_bit_0.1
theorem d_CM_bit_1 : decode prog_1_method_82_code 1 = .ok (.ifCond .eq (7), 3) := F_CM_bit_0.2.1
theorem d_CM_bit_4 : decode prog_1_method_82_code 4 = .ok (.iconst 1, 1) := F_CM_bit_0.2.2.1
theorem d_CM_bit_5 : decode prog_1_method_82_code 5 = .ok (.goto (4), 3) := F_CM_bit_0.2.2.2.1
theorem d_CM_bit_8 : decode prog_1_method_82_code 8 = .ok (.iconst 0, 1) := F_CM_bit_0.2.2.2.2.1
theorem d_CM_bit_9 : decode prog_1_method_82_code 9 = .ok (.ireturn, 1) := F_CM_bit_0.2.2.2.2.2.1
theorem F_CM_cutSides_0 : Jvm.Free.DS.Facts prog_1_method_26_code 0 [(.aload_n 0, 1), (.getfield 12, 3), (.iload_n 1, 1), (.invokevirtual 151, 3), (.ifCond .eq (14), 3), (.aload_n 0, 1), (.getfield 12, 3), (.iload_n 2, 1), (.invokevirtual 127, 3), (.ifCond .ne (5), 3), (.iconst (-1), 1), (.ireturn, 1), (.aload_n 0, 1), (.getfield 12, 3), (.getfield 142, 3), (.iload_n 2, 1), (.aaload, 1), (.getfield 146, 3), (.astore_n 3, 1), (.iconst 0, 1), (.istore 4, 2), (.iconst 0, 1), (.istore 5, 2), (.iload 5, 2), (.iconst 4, 1), (.if_icmp .ge (45), 3), (.aload_n 0, 1), (.getfield 12, 3), (.getfield 157, 3), (.iload_n 1, 1), (.aaload, 1), (.aload_n 3, 1)] := Jvm.Free.DS.facts 0 _ (by decide +kernel) (by decide +kernel)
theorem d_CM_cutSides_0 : decode prog_1_method_26_code 0 = .ok (.aload_n 0, 1) := F_CM_cutSides_0.1
theorem d_CM_cutSides_1 : decode prog_1_method_26_code 1 = .ok (.getfield 12, 3) := F_CM_cutSides_0.2.1
theorem d_CM_cutSides_4 : decode prog_1_method_26_code 4 = .ok (.iload_n 1, 1) := F_CM_cutSides_0.2.2.1
theorem d_CM_cutSides_5 : decode prog_1_method_26_code 5 = .ok (.invokevirtual 151, 3) := F_CM_cutSides_0.2.2.2.1
theorem d_CM_cutSides_8 : decode prog_1_method_26_code 8 = .ok (.ifCond .eq (14), 3) := F_CM_cutSides_0.2.2.2.2.1
theorem d_CM_cutSides_11 : decode prog_1_method_26_code 11 = .ok (.aload_n 0, 1) := F_CM_cutSides_0.2.2.2.2.2.1
theorem d_CM_cutSides_12 : decode prog_1_method_26_code 12 = .ok (.getfield 12, 3) := F_CM_cutSides_0.2.2.2.2.2.2.1
theorem d_CM_cutSides_15 : decode prog_1_method_26_code 15 = .ok (.iload_n 2, 1) := F_CM_cutSides_0.2.2.2.2.2.2.2.1
theorem d_CM_cutSides_16 : decode prog_1_method_26_code 16 = .ok (.invokevirtual 127, 3) := F_CM_cutSides_0.2.2.2.2.2.2.2.2.1
theorem d_CM_cutSides_19 : decode prog_1_method_26_code 19 = .ok (.ifCond .ne (5), 3) := F_CM_cutSides_0.2.2.2.2.2.2.2.2.2.1
theorem d_CM_cutSides_22 : decode prog_1_method_26_code 22 = .ok (.iconst (-1), 1) := F_CM_cutSides_0.2.2.2.2.2.2.2.2.2.2.1
theorem d_CM_cutSides_23 : decode prog_1_method_26_code 23 = .ok (.ireturn, 1) := F_CM_cutSides_0.2.2.2.2.2.2.2.2.2.2.2.1
theorem d_CM_cutSides_24 : decode prog_1_method_26_code 24 = .ok (.aload_n 0, 1) := F_CM_cutSides_0.2.2.2.2.2.2.2.2.2.2.2.2.1
theorem d_CM_cutSides_25 : decode prog_1_method_26_code 25 = .ok (.getfield 12, 3) := F_CM_cutSides_0.2.2.2.2.2.2.2.2.2.2.2.2.2.1
theorem d_CM_cutSides_28 : decode prog_1_method_26_code 28 = .ok (.getfield 142, 3) := F_CM_cutSides_0.2.2.2.2.2.2.2.2.2.2.2.2.2.2.1
theorem d_CM_cutSides_31 : decode prog_1_method_26_code 31 = .ok (.iload_n 2, 1) := F_CM_cutSides_0.2.2.2.2.2.2.2.2.2.2.2.2.2.2.2.1
theorem d_CM_cutSides_32 : decode prog_1_method_26_code 32 = .ok (.aaload, 1) := F_CM_cutSides_0.2.2.2.2.2.2.2.2.2.2.2.2.2.2.2.2.1
theorem d_CM_cutSides_33 : decode prog_1_method_26_code 33 = .ok (.getfield 146, 3) := F_CM_cutSides_0.2.2.2.2.2.2.2.2.2.2.2.2.2.2.2.2.2.1
theorem d_CM_cutSides_36 : decode prog_1_method_26_code 36 = .ok (.astore_n 3, 1) := F_CM_cutSides_0.2.2.2.2.2.2.2.2.2.2.2.2.2.2.2.2.2.2.1
theorem d_CM_cutSides_37 : decode prog_1_method_26_code 37 = .ok (.iconst 0, 1) := F_CM_cutSides_0.2.2.2.2.2.2.2.2.2.2.2.2.2.2.2.2.2.2.2.1
theorem d_CM_cutSides_38 : decode prog_1_method_26_code 38 = .ok (.istore 4, 2) := F_CM_cutSides_0.2.2.2.2.2.2.2.2.2.2.2.2.2.2.2.2.2.2.2.2.1
theorem d_CM_cutSides_40 : decode prog_1_method_26_code 40 = .ok (.iconst 0, 1) := F_CM_cutSides_0.2.2.2.2.2.2.2.2.2.2.2.2.2.2.2.2.2.2.2.2.2.1
theorem d_CM_cutSides_41 : decode prog_1_method_26_code 41 = .ok (.istore 5, 2) := F_CM_cutSides_0.2.2.2.2.2.2.2.2.2.2.2.2.2.2.2.2.2.2.2.2.2.2.1
theorem d_CM_cutSides_43 : decode prog_1_method_26_code 43 = .ok (.iload 5, 2) := F_CM_cutSides_0.2.2.2.2.2.2.2.2.2.2.2.2.2.2.2.2.2.2.2.2.2.2.2.1
theorem d_CM_cutSides_45 : decode prog_1_method_26_code 45 = .ok (.iconst 4, 1) := F_CM_cutSides_0.2.2.2.2.2.2.2.2.2.2.2.2.2.2.2.2.2.2.2.2.2.2.2.2.1
theorem d_CM_cutSides_46 : decode prog_1_method_26_code 46 = .ok (.if_icmp .ge (45), 3) := F_CM_cutSides_0.2.2.2.2.2.2.2.2.2.2.2.2.2.2.2.2.2.2.2.2.2.2.2.2.2.1
theorem d_CM_cutSides_49 : decode prog_1_method_26_code 49 = .ok (.aload_n 0, 1) := F_CM_cutSides_0.2.2.2.2.2.2.2.2.2.2.2.2.2.2.2.2.2.2.2.2.2.2.2.2.2.2.1
theorem d_CM_cutSides_50 : decode prog_1_method_26_code 50 = .ok (.getfield 12, 3) := F_CM_cutSides_0.2.2.2.2.2.2.2.2.2.2.2.2.2.2.2.2.2.2.2.2.2.2.2.2.2.2.2.1
theorem d_CM_cutSides_53 : decode prog_1_method_26_code 53 = .ok (.getfield 157, 3) := F_CM_cutSides_0.2.2.2.2.2.2.2.2.2.2.2.2.2.2.2.2.2.2.2.2.2.2.2.2.2.2.2.2.1
theorem d_CM_cutSides_56 : decode prog_1_method_26_code 56 = .ok (.iload_n 1, 1) := F_CM_cutSides_0.2.2.2.2.2.2.2.2.2.2.2.2.2.2.2.2.2.2.2.2.2.2.2.2.2.2.2.2.2.1
theorem d_CM_cutSides_57 : decode prog_1_method_26_code 57 = .ok (.aaload, 1) := F_CM_cutSides_0.2.2.2.2.2.2.2.2.2.2.2.2.2.2.2.2.2.2.2.2.2.2.2.2.2.2.2.2.2.2.1
theorem d_CM_cutSides_58 : decode prog_1_method_26_code 58 = .ok (.aload_n 3, 1) := F_CM_cutSides_0.2.2.2.2.2.2.2.2.2.2.2.2.2.2.2.2.2.2.2.2.2.2.2.2.2.2.2.2.2.2.2.1
theorem F_CM_cutSides_59 : Jvm.Free.DS.Facts prog_1_method_26_code 59 [(.iload 5, 2), (.aaload, 1), (.aload_n 3, 1), (.iload 5, 2), (.iconst 1, 1), (.iadd, 1), (.iconst 3, 1), (.iand, 1), (.aaload, 1), (.invokestatic 286, 3), (.ifCond .eq (12), 3), (.iload 4, 2), (.iconst 1, 1), (.iload 5, 2), (.ishl, 1), (.ior, 1), (.istore 4, 2), (.iinc 5 (1), 3), (.goto (-45), 3), (.iload 4, 2), (.ireturn, 1)] := Jvm.Free.DS.facts 59 _ (by decide +kernel) (by decide +kernel)
theorem d_CM_cutSides_59 : decode prog_1_method_26_code 59 = .ok (.iload 5, 2) := F_CM_cutSides_59.1
theorem d_CM_cutSides_61 : decode prog_1_method_26_code 61 = .ok (.aaload, 1) := F_CM_cutSides_59.2.1
theorem d_CM_cutSides_62 : decode prog_1_method_26_code 62 = .ok (.aload_n 3, 1) := F_CM_cutSides_59.2.2.1
theorem d_CM_cutSides_63 : decode prog_1_method_26_code 63 = .ok (.iload 5, 2) := F_CM_cutSides_59.2.2.2.1
theorem d_CM_cutSides_65 : decode prog_1_method_26_code 65 = .ok (.iconst 1, 1) := F_CM_cutSides_59.2.2.2.2.1
theorem d_CM_cutSides_66 : decode prog_1_method_26_code 66 = .ok (.iadd, 1) := F_CM_cutSides_59.2.2.2.2.2.1
theorem d_CM_cutSides_67 : decode prog_1_method_26_code 67 = .ok (.iconst 3, 1) := F_CM_cutSides_59.2.2.2.2.2.2.1
theorem d_CM_cutSides_68 : decode prog_1_method_26_code 68 = .ok (.iand, 1) := F_CM_cutSides_59.2.2.2.2.2.2.2.1
theorem d_CM_cutSides_69 : decode prog_1_method_26_code 69 = .ok (.aaload, 1) := F_CM_cutSides_59.2.2.2.2.2.2.2.2.1
theorem d_CM_cutSides_70 : decode prog_1_method_26_code 70 = .ok (.invokestatic 286, 3) := F_CM_cutSides_59.2.2.2.2.2.2.2.2.2.1
theorem d_CM_cutSides_73 : decode prog_1_method_26_code 73 = .ok (.ifCond .eq (12), 3) := F_CM_cutSides_59.2.2.2.2.2.2.2.2.2.2.1
theorem d_CM_cutSides_76 : decode prog_1_method_26_code 76 = .ok (.iload 4, 2) := F_CM_cutSides_59.2.2.2.2.2.2.2.2.2.2.2.1
theorem d_CM_cutSides_78 : decode prog_1_method_26_code 78 = .ok (.iconst 1, 1) := F_CM_cutSides_59.2.2.2.2.2.2.2.2.2.2.2.2.1
theorem d_CM_cutSides_79 : decode prog_1_method_26_code 79 = .ok (.iload 5, 2) := F_CM_cutSides_59.2.2.2.2.2.2.2.2.2.2.2.2.2.1
theorem d_CM_cutSides_81 : decode prog_1_method_26_code 81 = .ok (.ishl, 1) := F_CM_cutSides_59.2.2.2.2.2.2.2.2.2.2.2.2.2.2.1
theorem d_CM_cutSides_82 : decode prog_1_method_26_code 82 = .ok (.ior, 1) := F_CM_cutSides_59.2.2.2.2.2.2.2.2.2.2.2.2.2.2.2.1
theorem d_CM_cutSides_83 : decode prog_1_method_26_code 83 = .ok (.istore 4, 2) := F_CM_cutSides_59.2.2.2.2.2.2.2.2.2.2.2.2.2.2.2.2.1
theorem d_CM_cutSides_85 : decode prog_1_method_26_code 85 = .ok (.iinc 5 (1), 3) := F_CM_cutSides_59.2.2.2.2.2.2.2.2.2.2.2.2.2.2.2.2.2.1
theorem d_CM_cutSides_88 : decode prog_1_method_26_code 88 = .ok (.goto (-45), 3) := F_CM_cutSides_59.2.2.2.2.2.2.2.2.2.2.2.2.2.2.2.2.2.2.1
theorem d_CM_cutSides_91 : decode prog_1_method_26_code 91 = .ok (.iload 4, 2) := F_CM_cutSides_59.2.2.2.2.2.2.2.2.2.2.2.2.2.2.2.2.2.2.2.1
theorem d_CM_cutSides_93 : decode prog_1_method_26_code 93 = .ok (.ireturn, 1) := F_CM_cutSides_59.2.2.2.2.2.2.2.2.2.2.2.2.2.2.2.2.2.2.2.2.1
theorem F_CM_kind_0 : Jvm.Free.DS.Facts prog_1_method_27_code 0 [(.aload_n 0, 1), (.getfield 12, 3), (.iload_n 1, 1), (.invokevirtual 151, 3), (.ifCond .eq (18), 3), (.aload_n 0, 1), (.getfield 12, 3), (.getfield 157, 3), (.iload_n 1, 1), (.aaload, 1), (.invokestatic 294, 3), (.goto (4), 3), (.iconst (-1), 1), (.ireturn, 1)] := Jvm.Free.DS.facts 0 _ (by decide +kernel) (by decide +kernel)
theorem d_CM_kind_0 : decode prog_1_method_27_code 0 = .ok (.aload_n 0, 1) := F_CM_kind_0.1
theorem d_CM_kind_1 : decode prog_1_method_27_code 1 = .ok (.getfield 12, 3) := F_CM_kind_0.2.1
theorem d_CM_kind_4 : decode prog_1_method_27_code 4 = .ok (.iload_n 1, 1) := F_CM_kind_0.2.2.1
theorem d_CM_kind_5 : decode prog_1_method_27_code 5 = .ok (.invokevirtual 151, 3) := F_CM_kind_0.2.2.2.1
theorem d_CM_kind_8 : decode prog_1_method_27_code 8 = .ok (.ifCond .eq (18), 3) := F_CM_kind_0.2.2.2.2.1
theorem d_CM_kind_11 : decode prog_1_method_27_code 11 = .ok (.aload_n 0, 1) := F_CM_kind_0.2.2.2.2.2.1
theorem d_CM_kind_12 : decode prog_1_method_27_code 12 = .ok (.getfield 12, 3) := F_CM_kind_0.2.2.2.2.2.2.1
theorem d_CM_kind_15 : decode prog_1_method_27_code 15 = .ok (.getfield 157, 3) := F_CM_kind_0.2.2.2.2.2.2.2.1
theorem d_CM_kind_18 : decode prog_1_method_27_code 18 = .ok (.iload_n 1, 1) := F_CM_kind_0.2.2.2.2.2.2.2.2.1
theorem d_CM_kind_19 : decode prog_1_method_27_code 19 = .ok (.aaload, 1) := F_CM_kind_0.2.2.2.2.2.2.2.2.2.1
theorem d_CM_kind_20 : decode prog_1_method_27_code 20 = .ok (.invokestatic 294, 3) := F_CM_kind_0.2.2.2.2.2.2.2.2.2.2.1
theorem d_CM_kind_23 : decode prog_1_method_27_code 23 = .ok (.goto (4), 3) := F_CM_kind_0.2.2.2.2.2.2.2.2.2.2.2.1
theorem d_CM_kind_26 : decode prog_1_method_27_code 26 = .ok (.iconst (-1), 1) := F_CM_kind_0.2.2.2.2.2.2.2.2.2.2.2.2.1
theorem d_CM_kind_27 : decode prog_1_method_27_code 27 = .ok (.ireturn, 1) := F_CM_kind_0.2.2.2.2.2.2.2.2.2.2.2.2.2.1
theorem F_Maps_kindOf_0 : Jvm.Free.DS.Facts prog_3_method_11_code 0 [(.aload_n 0, 1), (.bipush (6), 2), (.laload, 1), (.lconst 0, 1), (.lcmp, 1), (.ifCond .ne (12), 3), (.aload_n 0, 1), (.bipush (7), 2), (.laload, 1), (.lconst 0, 1), (.lcmp, 1), (.ifCond .eq (5), 3), (.iconst 5, 1), (.ireturn, 1), (.aload_n 0, 1), (.iconst 0, 1), (.laload, 1), (.aload_n 0, 1), (.iconst 0, 1), (.laload, 1), (.lmul, 1), (.aload_n 0, 1), (.iconst 3, 1), (.laload, 1), (.aload_n 0, 1), (.iconst 3, 1), (.laload, 1), (.lmul, 1), (.ladd, 1), (.lstore_n 1, 1), (.aload_n 0, 1), (.iconst 0, 1)] := Jvm.Free.DS.facts 0 _ (by decide +kernel) (by decide +kernel)
theorem d_Maps_kindOf_0 : decode prog_3_method_11_code 0 = .ok (.aload_n 0, 1) := F_Maps_kindOf_0.1
theorem d_Maps_kindOf_1 : decode prog_3_method_11_code 1 = .ok (.bipush (6), 2) := F_Maps_kindOf_0.2.1
theorem d_Maps_kindOf_3 : decode prog_3_method_11_code 3 = .ok (.laload, 1) := F_Maps_kindOf_0.2.2.1
theorem d_Maps_kindOf_4 : decode prog_3_method_11_code 4 = .ok (.lconst 0, 1) := F_Maps_kindOf_0.2.2.2.1
theorem d_Maps_kindOf_5 : decode prog_3_method_11_code 5 = .ok (.lcmp, 1) := F_Maps_kindOf_0.2.2.2.2.1
theorem d_Maps_kindOf_6 : decode prog_3_method_11_code 6 = .ok (.ifCond .ne (12), 3) := F_Maps_kindOf_0.2.2.2.2.2.1
theorem d_Maps_kindOf_9 : decode prog_3_method_11_code 9 = .ok (.aload_n 0, 1) := F_Maps_kindOf_0.2.2.2.2.2.2.1
theorem d_Maps_kindOf_10 : decode prog_3_method_11_code 10 = .ok (.bipush (7), 2) := F_Maps_kindOf_0.2.2.2.2.2.2.2.1
theorem d_Maps_kindOf_12 : decode prog_3_method_11_code 12 = .ok (.laload, 1) := F_Maps_kindOf_0.2.2.2.2.2.2.2.2.1
theorem d_Maps_kindOf_13 : decode prog_3_method_11_code 13 = .ok (.lconst 0, 1) := F_Maps_kindOf_0.2.2.2.2.2.2.2.2.2.1
theorem d_Maps_kindOf_14 : decode prog_3_method_11_code 14 = .ok (.lcmp, 1) := F_Maps_kindOf_0.2.2.2.2.2.2.2.2.2.2.1
theorem d_Maps_kindOf_15 : decode prog_3_method_11_code 15 = .ok (.ifCond .eq (5), 3) := F_Maps_kindOf_0.2.2.2.2.2.2.2.2.2.2.2.1
theorem d_Maps_kindOf_18 : decode prog_3_method_11_code 18 = .ok (.iconst 5, 1) := F_Maps_kindOf_0.2.2.2.2.2.2.2.2.2.2.2.2.1
theorem d_Maps_kindOf_19 : decode prog_3_method_11_code 19 = .ok (.ireturn, 1) := F_Maps_kindOf_0.2.2.2.2.2.2.2.2.2.2.2.2.2.1
theorem d_Maps_kindOf_20 : decode prog_3_method_11_code 20 = .ok (.aload_n 0, 1) := F_Maps_kindOf_0.2.2.2.2.2.2.2.2.2.2.2.2.2.2.1
theorem d_Maps_kindOf_21 : decode prog_3_method_11_code 21 = .ok (.iconst 0, 1) := F_Maps_kindOf_0.2.2.2.2.2.2.2.2.2.2.2.2.2.2.2.1
theorem d_Maps_kindOf_22 : decode prog_3_method_11_code 22 = .ok (.laload, 1) := F_Maps_kindOf_0.2.2.2.2.2.2.2.2.2.2.2.2.2.2.2.2.1
theorem d_Maps_kindOf_23 : decode prog_3_method_11_code 23 = .ok (.aload_n 0, 1) := F_Maps_kindOf_0.2.2.2.2.2.2.2.2.2.2.2.2.2.2.2.2.2.1
theorem d_Maps_kindOf_24 : decode prog_3_method_11_code 24 = .ok (.iconst 0, 1) := F_Maps_kindOf_0.2.2.2.2.2.2.2.2.2.2.2.2.2.2.2.2.2.2.1
theorem d_Maps_kindOf_25 : decode prog_3_method_11_code 25 = .ok (.laload, 1) := F_Maps_kindOf_0.2.2.2.2.2.2.2.2.2.2.2.2.2.2.2.2.2.2.2.1
theorem d_Maps_kindOf_26 : decode prog_3_method_11_code 26 = .ok (.lmul, 1) := F_Maps_kindOf_0.2.2.2.2.2.2.2.2.2.2.2.2.2.2.2.2.2.2.2.2.1
theorem d_Maps_kindOf_27 : decode prog_3_method_11_code 27 = .ok (.aload_n 0, 1) := F_Maps_kindOf_0.2.2.2.2.2.2.2.2.2.2.2.2.2.2.2.2.2.2.2.2.2.1
theorem d_Maps_kindOf_28 : decode prog_3_method_11_code 28 = .ok (.iconst 3, 1) := F_Maps_kindOf_0.2.2.2.2.2.2.2.2.2.2.2.2.2.2.2.2.2.2.2.2.2.2.1
theorem d_Maps_kindOf_29 : decode prog_3_method_11_code 29 = .ok (.laload, 1) := F_Maps_kindOf_0.2.2.2.2.2.2.2.2.2.2.2.2.2.2.2.2.2.2.2.2.2.2.2.1
theorem d_Maps_kindOf_30 : decode prog_3_method_11_code 30 = .ok (.aload_n 0, 1) := F_Maps_kindOf_0.2.2.2.2.2.2.2.2.2.2.2.2.2.2.2.2.2.2.2.2.2.2.2.2.1
theorem d_Maps_kindOf_31 : decode prog_3_method_11_code 31 = .ok (.iconst 3, 1) := F_Maps_kindOf_0.2.2.2.2.2.2.2.2.2.2.2.2.2.2.2.2.2.2.2.2.2.2.2.2.2.1
theorem d_Maps_kindOf_32 : decode prog_3_method_11_code 32 = .ok (.laload, 1) := F_Maps_kindOf_0.2.2.2.2.2.2.2.2.2.2.2.2.2.2.2.2.2.2.2.2.2.2.2.2.2.2.1
theorem d_Maps_kindOf_33 : decode prog_3_method_11_code 33 = .ok (.lmul, 1) := F_Maps_kindOf_0.2.2.2.2.2.2.2.2.2.2.2.2.2.2.2.2.2.2.2.2.2.2.2.2.2.2.2.1
theorem d_Maps_kindOf_34 : decode prog_3_method_11_code 34 = .ok (.ladd, 1) := F_Maps_kindOf_0.2.2.2.2.2.2.2.2.2.2.2.2.2.2.2.2.2.2.2.2.2.2.2.2.2.2.2.2.1
theorem d_Maps_kindOf_35 : decode prog_3_method_11_code 35 = .ok (.lstore_n 1, 1) := F_Maps_kindOf_0.2.2.2.2.2.2.2.2.2.2.2.2.2.2.2.2.2.2.2.2.2.2.2.2.2.2.2.2.2.1
theorem d_Maps_kindOf_36 : decode prog_3_method_11_code 36 = .ok (.aload_n 0, 1) := F_Maps_kindOf_0.2.2.2.2.2.2.2.2.2.2.2.2.2.2.2.2.2.2.2.2.2.2.2.2.2.2.2.2.2.2.1
theorem d_Maps_kindOf_37 : decode prog_3_method_11_code 37 = .ok (.iconst 0, 1) := F_Maps_kindOf_0.2.2.2.2.2.2.2.2.2.2.2.2.2.2.2.2.2.2.2.2.2.2.2.2.2.2.2.2.2.2.2.1
theorem F_Maps_kindOf_38 : Jvm.Free.DS.Facts prog_3_method_11_code 38 [(.laload, 1), (.aload_n 0, 1), (.iconst 1, 1), (.laload, 1), (.lmul, 1), (.aload_n 0, 1), (.iconst 3, 1), (.laload, 1), (.aload_n 0, 1), (.iconst 4, 1), (.laload, 1), (.lmul, 1), (.ladd, 1), (.lconst 0, 1), (.lcmp, 1), (.ifCond .ne (23), 3), (.aload_n 0, 1), (.iconst 1, 1), (.laload, 1), (.aload_n 0, 1), (.iconst 1, 1), (.laload, 1), (.lmul, 1), (.aload_n 0, 1), (.iconst 4, 1), (.laload, 1), (.aload_n 0, 1), (.iconst 4, 1), (.laload, 1), (.lmul, 1), (.ladd, 1), (.lload_n 1, 1)] := Jvm.Free.DS.facts 38 _ (by decide +kernel) (by decide +kernel)
theorem d_Maps_kindOf_38 : decode prog_3_method_11_code 38 = .ok (.laload, 1) := F_Maps_kindOf_38.1
theorem d_Maps_kindOf_39 : decode prog_3_method_11_code 39 = .ok (.aload_n 0, 1) := F_Maps_kindOf_38.2.1
theorem d_Maps_kindOf_40 : decode prog_3_method_11_code 40 = .ok (.iconst 1, 1) := F_Maps_kindOf_38.2.2.1
theorem d_Maps_kindOf_41 : decode prog_3_method_11_code 41 = .ok (.laload, 1) := F_Maps_kindOf_38.2.2.2.1
theorem d_Maps_kindOf_42 : decode prog_3_method_11_code 42 = .ok (.lmul, 1) := F_Maps_kindOf_38.2.2.2.2.1
theorem d_Maps_kindOf_43 : decode prog_3_method_11_code 43 = .ok (.aload_n 0, 1) := F_Maps_kindOf_38.2.2.2.2.2.1
theorem d_Maps_kindOf_44 : decode prog_3_method_11_code 44 = .ok (.iconst 3, 1) := F_Maps_kindOf_38.2.2.2.2.2.2.1
theorem d_Maps_kindOf_45 : decode prog_3_method_11_code 45 = .ok (.laload, 1) := F_Maps_kindOf_38.2.2.2.2.2.2.2.1
theorem d_Maps_kindOf_46 : decode prog_3_method_11_code 46 = .ok (.aload_n 0, 1) := F_Maps_kindOf_38.2.2.2.2.2.2.2.2.1
theorem d_Maps_kindOf_47 : decode prog_3_method_11_code 47 = .ok (.iconst 4, 1) := F_Maps_kindOf_38.2.2.2.2.2.2.2.2.2.1
theorem d_Maps_kindOf_48 : decode prog_3_method_11_code 48 = .ok (.laload, 1) := F_Maps_kindOf_38.2.2.2.2.2.2.2.2.2.2.1
theorem d_Maps_kindOf_49 : decode prog_3_method_11_code 49 = .ok (.lmul, 1) := F_Maps_kindOf_38.2.2.2.2.2.2.2.2.2.2.2.1
theorem d_Maps_kindOf_50 : decode prog_3_method_11_code 50 = .ok (.ladd, 1) := F_Maps_kindOf_38.2.2.2.2.2.2.2.2.2.2.2.2.1
theorem d_Maps_kindOf_51 : decode prog_3_method_11_code 51 = .ok (.lconst 0, 1) := F_Maps_kindOf_38.2.2.2.2.2.2.2.2.2.2.2.2.2.1
theorem d_Maps_kindOf_52 : decode prog_3_method_11_code 52 = .ok (.lcmp, 1) := F_Maps_kindOf_38.2.2.2.2.2.2.2.2.2.2.2.2.2.2.1
theorem d_Maps_kindOf_53 : decode prog_3_method_11_code 53 = .ok (.ifCond .ne (23), 3) := F_Maps_kindOf_38.2.2.2.2.2.2.2.2.2.2.2.2.2.2.2.1
theorem d_Maps_kindOf_56 : decode prog_3_method_11_code 56 = .ok (.aload_n 0, 1) := F_Maps_kindOf_38.2.2.2.2.2.2.2.2.2.2.2.2.2.2.2.2.1
theorem d_Maps_kindOf_57 : decode prog_3_method_11_code 57 = .ok (.iconst 1, 1) := F_Maps_kindOf_38.2.2.2.2.2.2.2.2.2.2.2.2.2.2.2.2.2.1
theorem d_Maps_kindOf_58 : decode prog_3_method_11_code 58 = .ok (.laload, 1) := F_Maps_kindOf_38.2.2.2.2.2.2.2.2.2.2.2.2.2.2.2.2.2.2.1
theorem d_Maps_kindOf_59 : decode prog_3_method_11_code 59 = .ok (.aload_n 0, 1) := F_Maps_kindOf_38.2.2.2.2.2.2.2.2.2.2.2.2.2.2.2.2.2.2.2.1
theorem d_Maps_kindOf_60 : decode prog_3_method_11_code 60 = .ok (.iconst 1, 1) := F_Maps_kindOf_38.2.2.2.2.2.2.2.2.2.2.2.2.2.2.2.2.2.2.2.2.1
theorem d_Maps_kindOf_61 : decode prog_3_method_11_code 61 = .ok (.laload, 1) := F_Maps_kindOf_38.2.2.2.2.2.2.2.2.2.2.2.2.2.2.2.2.2.2.2.2.2.1
theorem d_Maps_kindOf_62 : decode prog_3_method_11_code 62 = .ok (.lmul, 1) := F_Maps_kindOf_38.2.2.2.2.2.2.2.2.2.2.2.2.2.2.2.2.2.2.2.2.2.2.1
theorem d_Maps_kindOf_63 : decode prog_3_method_11_code 63 = .ok (.aload_n 0, 1) := F_Maps_kindOf_38.2.2.2.2.2.2.2.2.2.2.2.2.2.2.2.2.2.2.2.2.2.2.2.1
theorem d_Maps_kindOf_64 : decode prog_3_method_11_code 64 = .ok (.iconst 4, 1) := F_Maps_kindOf_38.2.2.2.2.2.2.2.2.2.2.2.2.2.2.2.2.2.2.2.2.2.2.2.2.1
theorem d_Maps_kindOf_65 : decode prog_3_method_11_code 65 = .ok (.laload, 1) := F_Maps_kindOf_38.2.2.2.2.2.2.2.2.2.2.2.2.2.2.2.2.2.2.2.2.2.2.2.2.2.1
theorem d_Maps_kindOf_66 : decode prog_3_method_11_code 66 = .ok (.aload_n 0, 1) := F_Maps_kindOf_38.2.2.2.2.2.2.2.2.2.2.2.2.2.2.2.2.2.2.2.2.2.2.2.2.2.2.1
theorem d_Maps_kindOf_67 : decode prog_3_method_11_code 67 = .ok (.iconst 4, 1) := F_Maps_kindOf_38.2.2.2.2.2.2.2.2.2.2.2.2.2.2.2.2.2.2.2.2.2.2.2.2.2.2.2.1
theorem d_Maps_kindOf_68 : decode prog_3_method_11_code 68 = .ok (.laload, 1) := F_Maps_kindOf_38.2.2.2.2.2.2.2.2.2.2.2.2.2.2.2.2.2.2.2.2.2.2.2.2.2.2.2.2.1
theorem d_Maps_kindOf_69 : decode prog_3_method_11_code 69 = .ok (.lmul, 1) := F_Maps_kindOf_38.2.2.2.2.2.2.2.2.2.2.2.2.2.2.2.2.2.2.2.2.2.2.2.2.2.2.2.2.2.1
theorem d_Maps_kindOf_70 : decode prog_3_method_11_code 70 = .ok (.ladd, 1) := F_Maps_kindOf_38.2.2.2.2.2.2.2.2.2.2.2.2.2.2.2.2.2.2.2.2.2.2.2.2.2.2.2.2.2.2.1
theorem d_Maps_kindOf_71 : decode prog_3_method_11_code 71 = .ok (.lload_n 1, 1) := F_Maps_kindOf_38.2.2.2.2.2.2.2.2.2.2.2.2.2.2.2.2.2.2.2.2.2.2.2.2.2.2.2.2.2.2.2.1
theorem F_Maps_kindOf_72 : Jvm.Free.DS.Facts prog_3_method_11_code 72 [(.lcmp, 1), (.ifCond .eq (5), 3), (.iconst 4, 1), (.ireturn, 1), (.lload_n 1, 1), (.aload_n 0, 1), (.bipush (8), 2), (.laload, 1), (.aload_n 0, 1), (.bipush (8), 2), (.laload, 1), (.lmul, 1), (.lcmp, 1), (.ifCond .eq (5), 3), (.iconst 3, 1), (.ireturn, 1), (.aload_n 0, 1), (.iconst 1, 1), (.laload, 1), (.lconst 0, 1), (.lcmp, 1), (.ifCond .ne (33), 3), (.aload_n 0, 1), (.iconst 3, 1), (.laload, 1), (.lconst 0, 1), (.lcmp, 1), (.ifCond .ne (25), 3), (.aload_n 0, 1), (.iconst 0, 1), (.laload, 1), (.aload_n 0, 1)] := Jvm.Free.DS.facts 72 _ (by decide +kernel) (by decide +kernel)
theorem d_Maps_kindOf_72 : decode prog_3_method_11_code 72 = .ok (.lcmp, 1) := F_Maps_kindOf_72.1
theorem d_Maps_kindOf_73 : decode prog_3_method_11_code 73 = .ok (.ifCond .eq (5), 3) := F_Maps_kindOf_72.2.1
theorem d_Maps_kindOf_76 : decode prog_3_method_11_code 76 = .ok (.iconst 4, 1) := F_Maps_kindOf_72.2.2.1
theorem d_Maps_kindOf_77 : decode prog_3_method_11_code 77 = .ok (.ireturn, 1) := F_Maps_kindOf_72.2.2.2.1
theorem d_Maps_kindOf_78 : decode prog_3_method_11_code 78 = .ok (.lload_n 1, 1) := F_Maps_kindOf_72.2.2.2.2.1
theorem d_Maps_kindOf_79 : decode prog_3_method_11_code 79 = .ok (.aload_n 0, 1) := F_Maps_kindOf_72.2.2.2.2.2.1
theorem d_Maps_kindOf_80 : decode prog_3_method_11_code 80 = .ok (.bipush (8), 2) := F_Maps_kindOf_72.2.2.2.2.2.2.1
theorem d_Maps_kindOf_82 : decode prog_3_method_11_code 82 = .ok (.laload, 1) := F_Maps_kindOf_72.2.2.2.2.2.2.2.1
theorem d_Maps_kindOf_83 : decode prog_3_method_11_code 83 = .ok (.aload_n 0, 1) := F_Maps_kindOf_72.2.2.2.2.2.2.2.2.1
theorem d_Maps_kindOf_84 : decode prog_3_method_11_code 84 = .ok (.bipush (8), 2) := F_Maps_kindOf_72.2.2.2.2.2.2.2.2.2.1
theorem d_Maps_kindOf_86 : decode prog_3_method_11_code 86 = .ok (.laload, 1) := F_Maps_kindOf_72.2.2.2.2.2.2.2.2.2.2.1
theorem d_Maps_kindOf_87 : decode prog_3_method_11_code 87 = .ok (.lmul, 1) := F_Maps_kindOf_72.2.2.2.2.2.2.2.2.2.2.2.1
theorem d_Maps_kindOf_88 : decode prog_3_method_11_code 88 = .ok (.lcmp, 1) := F_Maps_kindOf_72.2.2.2.2.2.2.2.2.2.2.2.2.1
theorem d_Maps_kindOf_89 : decode prog_3_method_11_code 89 = .ok (.ifCond .eq (5), 3) := F_Maps_kindOf_72.2.2.2.2.2.2.2.2.2.2.2.2.2.1
theorem d_Maps_kindOf_92 : decode prog_3_method_11_code 92 = .ok (.iconst 3, 1) := F_Maps_kindOf_72.2.2.2.2.2.2.2.2.2.2.2.2.2.2.1
theorem d_Maps_kindOf_93 : decode prog_3_method_11_code 93 = .ok (.ireturn, 1) := F_Maps_kindOf_72.2.2.2.2.2.2.2.2.2.2.2.2.2.2.2.1
theorem d_Maps_kindOf_94 : decode prog_3_method_11_code 94 = .ok (.aload_n 0, 1) := F_Maps_kindOf_72.2.2.2.2.2.2.2.2.2.2.2.2.2.2.2.2.1
theorem d_Maps_kindOf_95 : decode prog_3_method_11_code 95 = .ok (.iconst 1, 1) := F_Maps_kindOf_72.2.2.2.2.2.2.2.2.2.2.2.2.2.2.2.2.2.1
theorem d_Maps_kindOf_96 : decode prog_3_method_11_code 96 = .ok (.laload, 1) := F_Maps_kindOf_72.2.2.2.2.2.2.2.2.2.2.2.2.2.2.2.2.2.2.1
theorem d_Maps_kindOf_97 : decode prog_3_method_11_code 97 = .ok (.lconst 0, 1) := F_Maps_kindOf_72.2.2.2.2.2.2.2.2.2.2.2.2.2.2.2.2.2.2.2.1
theorem d_Maps_kindOf_98 : decode prog_3_method_11_code 98 = .ok (.lcmp, 1) := F_Maps_kindOf_72.2.2.2.2.2.2.2.2.2.2.2.2.2.2.2.2.2.2.2.2.1
theorem d_Maps_kindOf_99 : decode prog_3_method_11_code 99 = .ok (.ifCond .ne (33), 3) := F_Maps_kindOf_72.2.2.2.2.2.2.2.2.2.2.2.2.2.2.2.2.2.2.2.2.2.1
theorem d_Maps_kindOf_102 : decode prog_3_method_11_code 102 = .ok (.aload_n 0, 1) := F_Maps_kindOf_72.2.2.2.2.2.2.2.2.2.2.2.2.2.2.2.2.2.2.2.2.2.2.1
theorem d_Maps_kindOf_103 : decode prog_3_method_11_code 103 = .ok (.iconst 3, 1) := F_Maps_kindOf_72.2.2.2.2.2.2.2.2.2.2.2.2.2.2.2.2.2.2.2.2.2.2.2.1
theorem d_Maps_kindOf_104 : decode prog_3_method_11_code 104 = .ok (.laload, 1) := F_Maps_kindOf_72.2.2.2.2.2.2.2.2.2.2.2.2.2.2.2.2.2.2.2.2.2.2.2.2.1
theorem d_Maps_kindOf_105 : decode prog_3_method_11_code 105 = .ok (.lconst 0, 1) := F_Maps_kindOf_72.2.2.2.2.2.2.2.2.2.2.2.2.2.2.2.2.2.2.2.2.2.2.2.2.2.1
theorem d_Maps_kindOf_106 : decode prog_3_method_11_code 106 = .ok (.lcmp, 1) := F_Maps_kindOf_72.2.2.2.2.2.2.2.2.2.2.2.2.2.2.2.2.2.2.2.2.2.2.2.2.2.2.1
theorem d_Maps_kindOf_107 : decode prog_3_method_11_code 107 = .ok (.ifCond .ne (25), 3) := F_Maps_kindOf_72.2.2.2.2.2.2.2.2.2.2.2.2.2.2.2.2.2.2.2.2.2.2.2.2.2.2.2.1
theorem d_Maps_kindOf_110 : decode prog_3_method_11_code 110 = .ok (.aload_n 0, 1) := F_Maps_kindOf_72.2.2.2.2.2.2.2.2.2.2.2.2.2.2.2.2.2.2.2.2.2.2.2.2.2.2.2.2.1
theorem d_Maps_kindOf_111 : decode prog_3_method_11_code 111 = .ok (.iconst 0, 1) := F_Maps_kindOf_72.2.2.2.2.2.2.2.2.2.2.2.2.2.2.2.2.2.2.2.2.2.2.2.2.2.2.2.2.2.1
theorem d_Maps_kindOf_112 : decode prog_3_method_11_code 112 = .ok (.laload, 1) := F_Maps_kindOf_72.2.2.2.2.2.2.2.2.2.2.2.2.2.2.2.2.2.2.2.2.2.2.2.2.2.2.2.2.2.2.1
theorem d_Maps_kindOf_113 : decode prog_3_method_11_code 113 = .ok (.aload_n 0, 1) := F_Maps_kindOf_72.2.2.2.2.2.2.2.2.2.2.2.2.2.2.2.2.2.2.2.2.2.2.2.2.2.2.2.2.2.2.2.1
theorem F_Maps_kindOf_114 : Jvm.Free.DS.Facts prog_3_method_11_code 114 [(.bipush (8), 2), (.laload, 1), (.lcmp, 1), (.ifCond .ne (14), 3), (.aload_n 0, 1), (.iconst 4, 1), (.laload, 1), (.aload_n 0, 1), (.bipush (8), 2), (.laload, 1), (.lcmp, 1), (.ifCond .eq (5), 3), (.iconst 2, 1), (.ireturn, 1), (.aload_n 0, 1), (.iconst 2, 1), (.laload, 1), (.lconst 0, 1), (.lcmp, 1), (.ifCond .ne (11), 3), (.aload_n 0, 1), (.iconst 5, 1), (.laload, 1), (.lconst 0, 1), (.lcmp, 1), (.ifCond .eq (7), 3), (.iconst 1, 1), (.goto (4), 3), (.iconst 0, 1), (.ireturn, 1)] := Jvm.Free.DS.facts 114 _ (by decide +kernel) (by decide +kernel)
theorem d_Maps_kindOf_114 : decode prog_3_method_11_code 114 = .ok (.bipush (8), 2) := F_Maps_kindOf_114.1
theorem d_Maps_kindOf_116 : decode prog_3_method_11_code 116 = .ok (.laload, 1) := F_Maps_kindOf_114.2.1
theorem d_Maps_kindOf_117 : decode prog_3_method_11_code 117 = .ok (.lcmp, 1) := F_Maps_kindOf_114.2.2.1
theorem d_Maps_kindOf_118 : decode prog_3_method_11_code 118 = .ok (.ifCond .ne (14), 3) := F_Maps_kindOf_114.2.2.2.1
theorem d_Maps_kindOf_121 : decode prog_3_method_11_code 121 = .ok (.aload_n 0, 1) := F_Maps_kindOf_114.2.2.2.2.1
theorem d_Maps_kindOf_122 : decode prog_3_method_11_code 122 = .ok (.iconst 4, 1) := F_Maps_kindOf_114.2.2.2.2.2.1
theorem d_Maps_kindOf_123 : decode prog_3_method_11_code 123 = .ok (.laload, 1) := F_Maps_kindOf_114.2.2.2.2.2.2.1
theorem d_Maps_kindOf_124 : decode prog_3_method_11_code 124 = .ok (.aload_n 0, 1) := F_Maps_kindOf_114.2.2.2.2.2.2.2.1
theorem d_Maps_kindOf_125 : decode prog_3_method_11_code 125 = .ok (.bipush (8), 2) := F_Maps_kindOf_114.2.2.2.2.2.2.2.2.1
theorem d_Maps_kindOf_127 : decode prog_3_method_11_code 127 = .ok (.laload, 1) := F_Maps_kindOf_114.2.2.2.2.2.2.2.2.2.1
theorem d_Maps_kindOf_128 : decode prog_3_method_11_code 128 = .ok (.lcmp, 1) := F_Maps_kindOf_114.2.2.2.2.2.2.2.2.2.2.1
theorem d_Maps_kindOf_129 : decode prog_3_method_11_code 129 = .ok (.ifCond .eq (5), 3) := F_Maps_kindOf_114.2.2.2.2.2.2.2.2.2.2.2.1
theorem d_Maps_kindOf_132 : decode prog_3_method_11_code 132 = .ok (.iconst 2, 1) := F_Maps_kindOf_114.2.2.2.2.2.2.2.2.2.2.2.2.1
theorem d_Maps_kindOf_133 : decode prog_3_method_11_code 133 = .ok (.ireturn, 1) := F_Maps_kindOf_114.2.2.2.2.2.2.2.2.2.2.2.2.2.1
theorem d_Maps_kindOf_134 : decode prog_3_method_11_code 134 = .ok (.aload_n 0, 1) := F_Maps_kindOf_114.2.2.2.2.2.2.2.2.2.2.2.2.2.2.1
theorem d_Maps_kindOf_135 : decode prog_3_method_11_code 135 = .ok (.iconst 2, 1) := F_Maps_kindOf_114.2.2.2.2.2.2.2.2.2.2.2.2.2.2.2.1
theorem d_Maps_kindOf_136 : decode prog_3_method_11_code 136 = .ok (.laload, 1) := F_Maps_kindOf_114.2.2.2.2.2.2.2.2.2.2.2.2.2.2.2.2.1
theorem d_Maps_kindOf_137 : decode prog_3_method_11_code 137 = .ok (.lconst 0, 1) := F_Maps_kindOf_114.2.2.2.2.2.2.2.2.2.2.2.2.2.2.2.2.2.1
theorem d_Maps_kindOf_138 : decode prog_3_method_11_code 138 = .ok (.lcmp, 1) := F_Maps_kindOf_114.2.2.2.2.2.2.2.2.2.2.2.2.2.2.2.2.2.2.1
theorem d_Maps_kindOf_139 : decode prog_3_method_11_code 139 = .ok (.ifCond .ne (11), 3) := F_Maps_kindOf_114.2.2.2.2.2.2.2.2.2.2.2.2.2.2.2.2.2.2.2.1
theorem d_Maps_kindOf_142 : decode prog_3_method_11_code 142 = .ok (.aload_n 0, 1) := F_Maps_kindOf_114.2.2.2.2.2.2.2.2.2.2.2.2.2.2.2.2.2.2.2.2.1
theorem d_Maps_kindOf_143 : decode prog_3_method_11_code 143 = .ok (.iconst 5, 1) := F_Maps_kindOf_114.2.2.2.2.2.2.2.2.2.2.2.2.2.2.2.2.2.2.2.2.2.1
theorem d_Maps_kindOf_144 : decode prog_3_method_11_code 144 = .ok (.laload, 1) := F_Maps_kindOf_114.2.2.2.2.2.2.2.2.2.2.2.2.2.2.2.2.2.2.2.2.2.2.1
theorem d_Maps_kindOf_145 : decode prog_3_method_11_code 145 = .ok (.lconst 0, 1) := F_Maps_kindOf_114.2.2.2.2.2.2.2.2.2.2.2.2.2.2.2.2.2.2.2.2.2.2.2.1
theorem d_Maps_kindOf_146 : decode prog_3_method_11_code 146 = .ok (.lcmp, 1) := F_Maps_kindOf_114.2.2.2.2.2.2.2.2.2.2.2.2.2.2.2.2.2.2.2.2.2.2.2.2.1
theorem d_Maps_kindOf_147 : decode prog_3_method_11_code 147 = .ok (.ifCond .eq (7), 3) := F_Maps_kindOf_114.2.2.2.2.2.2.2.2.2.2.2.2.2.2.2.2.2.2.2.2.2.2.2.2.2.1
theorem d_Maps_kindOf_150 : decode prog_3_method_11_code 150 = .ok (.iconst 1, 1) := F_Maps_kindOf_114.2.2.2.2.2.2.2.2.2.2.2.2.2.2.2.2.2.2.2.2.2.2.2.2.2.2.1
theorem d_Maps_kindOf_151 : decode prog_3_method_11_code 151 = .ok (.goto (4), 3) := F_Maps_kindOf_114.2.2.2.2.2.2.2.2.2.2.2.2.2.2.2.2.2.2.2.2.2.2.2.2.2.2.2.1
theorem d_Maps_kindOf_154 : decode prog_3_method_11_code 154 = .ok (.iconst 0, 1) := F_Maps_kindOf_114.2.2.2.2.2.2.2.2.2.2.2.2.2.2.2.2.2.2.2.2.2.2.2.2.2.2.2.2.1
theorem d_Maps_kindOf_155 : decode prog_3_method_11_code 155 = .ok (.ireturn, 1) := F_Maps_kindOf_114.2.2.2.2.2.2.2.2.2.2.2.2.2.2.2.2.2.2.2.2.2.2.2.2.2.2.2.2.2.1
theorem F_CM_turn_0 : Jvm.Free.DS.Facts prog_1_method_28_code 0 [(.aload_n 0, 1), (.getfield 12, 3), (.iload_n 1, 1), (.invokevirtual 151, 3), (.ifCond .ne (5), 3), (.iconst 0, 1), (.ireturn, 1), (.aload_n 0, 1), (.getfield 12, 3), (.getfield 157, 3), (.iload_n 1, 1), (.aaload, 1), (.astore_n 2, 1), (.aload_n 2, 1), (.invokestatic 297, 3), (.ldc2_w 301, 3), (.lcmp, 1), (.ifCond .le (5), 3), (.iconst 2, 1), (.ireturn, 1), (.aload_n 2, 1), (.invokestatic 303, 3), (.lconst 0, 1), (.lcmp, 1), (.ifCond .le (7), 3), (.iconst 1, 1), (.goto (4), 3), (.iconst (-1), 1), (.ireturn, 1)] := Jvm.Free.DS.facts 0 _ (by decide +kernel) (by decide +kernel)
theorem d_CM_turn_0 : decode prog_1_method_28_code 0 = .ok (.aload_n 0, 1) := F_CM_turn_0.1
theorem d_CM_turn_1 : decode prog_1_method_28_code 1 = .ok (.getfield 12, 3) := F_CM_turn_0.2.1
theorem d_CM_turn_4 : decode prog_1_method_28_code 4 = .ok (.iload_n 1, 1) := F_CM_turn_0.2.2.1
theorem d_CM_turn_5 : decode prog_1_method_28_code 5 = .ok (.invokevirtual 151, 3) := F_CM_turn_0.2.2.2.1
theorem d_CM_turn_8 : decode prog_1_method_28_code 8 = .ok (.ifCond .ne (5), 3) := F_CM_turn_0.2.2.2.2.1
theorem d_CM_turn_11 : decode prog_1_method_28_code 11 = .ok (.iconst 0, 1) := F_CM_turn_0.2.2.2.2.2.1
theorem d_CM_turn_12 : decode prog_1_method_28_code 12 = .ok (.ireturn, 1) := F_CM_turn_0.2.2.2.2.2.2.1
theorem d_CM_turn_13 : decode prog_1_method_28_code 13 = .ok (.aload_n 0, 1) := F_CM_turn_0.2.2.2.2.2.2.2.1
theorem d_CM_turn_14 : decode prog_1_method_28_code 14 = .ok (.getfield 12, 3) := F_CM_turn_0.2.2.2.2.2.2.2.2.1
theorem d_CM_turn_17 : decode prog_1_method_28_code 17 = .ok (.getfield 157, 3) := F_CM_turn_0.2.2.2.2.2.2.2.2.2.1
theorem d_CM_turn_20 : decode prog_1_method_28_code 20 = .ok (.iload_n 1, 1) := F_CM_turn_0.2.2.2.2.2.2.2.2.2.2.1
theorem d_CM_turn_21 : decode prog_1_method_28_code 21 = .ok (.aaload, 1) := F_CM_turn_0.2.2.2.2.2.2.2.2.2.2.2.1
theorem d_CM_turn_22 : decode prog_1_method_28_code 22 = .ok (.astore_n 2, 1) := F_CM_turn_0.2.2.2.2.2.2.2.2.2.2.2.2.1
theorem d_CM_turn_23 : decode prog_1_method_28_code 23 = .ok (.aload_n 2, 1) := F_CM_turn_0.2.2.2.2.2.2.2.2.2.2.2.2.2.1
theorem d_CM_turn_24 : decode prog_1_method_28_code 24 = .ok (.invokestatic 297, 3) := F_CM_turn_0.2.2.2.2.2.2.2.2.2.2.2.2.2.2.1
theorem d_CM_turn_27 : decode prog_1_method_28_code 27 = .ok (.ldc2_w 301, 3) := F_CM_turn_0.2.2.2.2.2.2.2.2.2.2.2.2.2.2.2.1
theorem d_CM_turn_30 : decode prog_1_method_28_code 30 = .ok (.lcmp, 1) := F_CM_turn_0.2.2.2.2.2.2.2.2.2.2.2.2.2.2.2.2.1
theorem d_CM_turn_31 : decode prog_1_method_28_code 31 = .ok (.ifCond .le (5), 3) := F_CM_turn_0.2.2.2.2.2.2.2.2.2.2.2.2.2.2.2.2.2.1
theorem d_CM_turn_34 : decode prog_1_method_28_code 34 = .ok (.iconst 2, 1) := F_CM_turn_0.2.2.2.2.2.2.2.2.2.2.2.2.2.2.2.2.2.2.1
theorem d_CM_turn_35 : decode prog_1_method_28_code 35 = .ok (.ireturn, 1) := F_CM_turn_0.2.2.2.2.2.2.2.2.2.2.2.2.2.2.2.2.2.2.2.1
theorem d_CM_turn_36 : decode prog_1_method_28_code 36 = .ok (.aload_n 2, 1) := F_CM_turn_0.2.2.2.2.2.2.2.2.2.2.2.2.2.2.2.2.2.2.2.2.1
theorem d_CM_turn_37 : decode prog_1_method_28_code 37 = .ok (.invokestatic 303, 3) := F_CM_turn_0.2.2.2.2.2.2.2.2.2.2.2.2.2.2.2.2.2.2.2.2.2.1
theorem d_CM_turn_40 : decode prog_1_method_28_code 40 = .ok (.lconst 0, 1) := F_CM_turn_0.2.2.2.2.2.2.2.2.2.2.2.2.2.2.2.2.2.2.2.2.2.2.1
theorem d_CM_turn_41 : decode prog_1_method_28_code 41 = .ok (.lcmp, 1) := F_CM_turn_0.2.2.2.2.2.2.2.2.2.2.2.2.2.2.2.2.2.2.2.2.2.2.2.1
theorem d_CM_turn_42 : decode prog_1_method_28_code 42 = .ok (.ifCond .le (7), 3) := F_CM_turn_0.2.2.2.2.2.2.2.2.2.2.2.2.2.2.2.2.2.2.2.2.2.2.2.2.1
theorem d_CM_turn_45 : decode prog_1_method_28_code 45 = .ok (.iconst 1, 1) := F_CM_turn_0.2.2.2.2.2.2.2.2.2.2.2.2.2.2.2.2.2.2.2.2.2.2.2.2.2.1
theorem d_CM_turn_46 : decode prog_1_method_28_code 46 = .ok (.goto (4), 3) := F_CM_turn_0.2.2.2.2.2.2.2.2.2.2.2.2.2.2.2.2.2.2.2.2.2.2.2.2.2.2.1
theorem d_CM_turn_49 : decode prog_1_method_28_code 49 = .ok (.iconst (-1), 1) := F_CM_turn_0.2.2.2.2.2.2.2.2.2.2.2.2.2.2.2.2.2.2.2.2.2.2.2.2.2.2.2.1
theorem d_CM_turn_50 : decode prog_1_method_28_code 50 = .ok (.ireturn, 1) := F_CM_turn_0.2.2.2.2.2.2.2.2.2.2.2.2.2.2.2.2.2.2.2.2.2.2.2.2.2.2.2.2.1
theorem F_Maps_determinant_0 : Jvm.Free.DS.Facts prog_3_method_10_code 0 [(.aload_n 0, 1), (.iconst 0, 1), (.laload, 1), (.aload_n 0, 1), (.iconst 4, 1), (.laload, 1), (.aload_n 0, 1), (.bipush (8), 2), (.laload, 1), (.lmul, 1), (.aload_n 0, 1), (.iconst 5, 1), (.laload, 1), (.aload_n 0, 1), (.bipush (7), 2), (.laload, 1), (.lmul, 1), (.lsub, 1), (.lmul, 1), (.aload_n 0, 1), (.iconst 1, 1), (.laload, 1), (.aload_n 0, 1), (.iconst 5, 1), (.laload, 1), (.aload_n 0, 1), (.bipush (6), 2), (.laload, 1), (.lmul, 1), (.aload_n 0, 1), (.iconst 3, 1), (.laload, 1)] := Jvm.Free.DS.facts 0 _ (by decide +kernel) (by decide +kernel)
theorem d_Maps_determinant_0 : decode prog_3_method_10_code 0 = .ok (.aload_n 0, 1) := F_Maps_determinant_0.1
theorem d_Maps_determinant_1 : decode prog_3_method_10_code 1 = .ok (.iconst 0, 1) := F_Maps_determinant_0.2.1
theorem d_Maps_determinant_2 : decode prog_3_method_10_code 2 = .ok (.laload, 1) := F_Maps_determinant_0.2.2.1
theorem d_Maps_determinant_3 : decode prog_3_method_10_code 3 = .ok (.aload_n 0, 1) := F_Maps_determinant_0.2.2.2.1
theorem d_Maps_determinant_4 : decode prog_3_method_10_code 4 = .ok (.iconst 4, 1) := F_Maps_determinant_0.2.2.2.2.1
theorem d_Maps_determinant_5 : decode prog_3_method_10_code 5 = .ok (.laload, 1) := F_Maps_determinant_0.2.2.2.2.2.1
theorem d_Maps_determinant_6 : decode prog_3_method_10_code 6 = .ok (.aload_n 0, 1) := F_Maps_determinant_0.2.2.2.2.2.2.1
theorem d_Maps_determinant_7 : decode prog_3_method_10_code 7 = .ok (.bipush (8), 2) := F_Maps_determinant_0.2.2.2.2.2.2.2.1
theorem d_Maps_determinant_9 : decode prog_3_method_10_code 9 = .ok (.laload, 1) := F_Maps_determinant_0.2.2.2.2.2.2.2.2.1
theorem d_Maps_determinant_10 : decode prog_3_method_10_code 10 = .ok (.lmul, 1) := F_Maps_determinant_0.2.2.2.2.2.2.2.2.2.1
theorem d_Maps_determinant_11 : decode prog_3_method_10_code 11 = .ok (.aload_n 0, 1) := F_Maps_determinant_0.2.2.2.2.2.2.2.2.2.2.1
theorem d_Maps_determinant_12 : decode prog_3_method_10_code 12 = .ok (.iconst 5, 1) := F_Maps_determinant_0.2.2.2.2.2.2.2.2.2.2.2.1
theorem d_Maps_determinant_13 : decode prog_3_method_10_code 13 = .ok (.laload, 1) := F_Maps_determinant_0.2.2.2.2.2.2.2.2.2.2.2.2.1
theorem d_Maps_determinant_14 : decode prog_3_method_10_code 14 = .ok (.aload_n 0, 1) := F_Maps_determinant_0.2.2.2.2.2.2.2.2.2.2.2.2.2.1
theorem d_Maps_determinant_15 : decode prog_3_method_10_code 15 = .ok (.bipush (7), 2) := F_Maps_determinant_0.2.2.2.2.2.2.2.2.2.2.2.2.2.2.1
theorem d_Maps_determinant_17 : decode prog_3_method_10_code 17 = .ok (.laload, 1) := F_Maps_determinant_0.2.2.2.2.2.2.2.2.2.2.2.2.2.2.2.1
theorem d_Maps_determinant_18 : decode prog_3_method_10_code 18 = .ok (.lmul, 1) := F_Maps_determinant_0.2.2.2.2.2.2.2.2.2.2.2.2.2.2.2.2.1
theorem d_Maps_determinant_19 : decode prog_3_method_10_code 19 = .ok (.lsub, 1) := F_Maps_determinant_0.2.2.2.2.2.2.2.2.2.2.2.2.2.2.2.2.2.1
theorem d_Maps_determinant_20 : decode prog_3_method_10_code 20 = .ok (.lmul, 1) := F_Maps_determinant_0.2.2.2.2.2.2.2.2.2.2.2.2.2.2.2.2.2.2.1
theorem d_Maps_determinant_21 : decode prog_3_method_10_code 21 = .ok (.aload_n 0, 1) := F_Maps_determinant_0.2.2.2.2.2.2.2.2.2.2.2.2.2.2.2.2.2.2.2.1
theorem d_Maps_determinant_22 : decode prog_3_method_10_code 22 = .ok (.iconst 1, 1) := F_Maps_determinant_0.2.2.2.2.2.2.2.2.2.2.2.2.2.2.2.2.2.2.2.2.1
theorem d_Maps_determinant_23 : decode prog_3_method_10_code 23 = .ok (.laload, 1) := F_Maps_determinant_0.2.2.2.2.2.2.2.2.2.2.2.2.2.2.2.2.2.2.2.2.2.1
theorem d_Maps_determinant_24 : decode prog_3_method_10_code 24 = .ok (.aload_n 0, 1) := F_Maps_determinant_0.2.2.2.2.2.2.2.2.2.2.2.2.2.2.2.2.2.2.2.2.2.2.1
theorem d_Maps_determinant_25 : decode prog_3_method_10_code 25 = .ok (.iconst 5, 1) := F_Maps_determinant_0.2.2.2.2.2.2.2.2.2.2.2.2.2.2.2.2.2.2.2.2.2.2.2.1
theorem d_Maps_determinant_26 : decode prog_3_method_10_code 26 = .ok (.laload, 1) := F_Maps_determinant_0.2.2.2.2.2.2.2.2.2.2.2.2.2.2.2.2.2.2.2.2.2.2.2.2.1
theorem d_Maps_determinant_27 : decode prog_3_method_10_code 27 = .ok (.aload_n 0, 1) := F_Maps_determinant_0.2.2.2.2.2.2.2.2.2.2.2.2.2.2.2.2.2.2.2.2.2.2.2.2.2.1
theorem d_Maps_determinant_28 : decode prog_3_method_10_code 28 = .ok (.bipush (6), 2) := F_Maps_determinant_0.2.2.2.2.2.2.2.2.2.2.2.2.2.2.2.2.2.2.2.2.2.2.2.2.2.2.1
theorem d_Maps_determinant_30 : decode prog_3_method_10_code 30 = .ok (.laload, 1) := F_Maps_determinant_0.2.2.2.2.2.2.2.2.2.2.2.2.2.2.2.2.2.2.2.2.2.2.2.2.2.2.2.1
theorem d_Maps_determinant_31 : decode prog_3_method_10_code 31 = .ok (.lmul, 1) := F_Maps_determinant_0.2.2.2.2.2.2.2.2.2.2.2.2.2.2.2.2.2.2.2.2.2.2.2.2.2.2.2.2.1
theorem d_Maps_determinant_32 : decode prog_3_method_10_code 32 = .ok (.aload_n 0, 1) := F_Maps_determinant_0.2.2.2.2.2.2.2.2.2.2.2.2.2.2.2.2.2.2.2.2.2.2.2.2.2.2.2.2.2.1
theorem d_Maps_determinant_33 : decode prog_3_method_10_code 33 = .ok (.iconst 3, 1) := F_Maps_determinant_0.2.2.2.2.2.2.2.2.2.2.2.2.2.2.2.2.2.2.2.2.2.2.2.2.2.2.2.2.2.2.1
theorem d_Maps_determinant_34 : decode prog_3_method_10_code 34 = .ok (.laload, 1) := F_Maps_determinant_0.2.2.2.2.2.2.2.2.2.2.2.2.2.2.2.2.2.2.2.2.2.2.2.2.2.2.2.2.2.2.2.1
theorem F_Maps_determinant_35 : Jvm.Free.DS.Facts prog_3_method_10_code 35 [(.aload_n 0, 1), (.bipush (8), 2), (.laload, 1), (.lmul, 1), (.lsub, 1), (.lmul, 1), (.ladd, 1), (.aload_n 0, 1), (.iconst 2, 1), (.laload, 1), (.aload_n 0, 1), (.iconst 3, 1), (.laload, 1), (.aload_n 0, 1), (.bipush (7), 2), (.laload, 1), (.lmul, 1), (.aload_n 0, 1), (.iconst 4, 1), (.laload, 1), (.aload_n 0, 1), (.bipush (6), 2), (.laload, 1), (.lmul, 1), (.lsub, 1), (.lmul, 1), (.ladd, 1), (.lreturn, 1)] := Jvm.Free.DS.facts 35 _ (by decide +kernel) (by decide +kernel)
theorem d_Maps_determinant_35 : decode prog_3_method_10_code 35 = .ok (.aload_n 0, 1) := F_Maps_determinant_35.1
theorem d_Maps_determinant_36 : decode prog_3_method_10_code 36 = .ok (.bipush (8), 2) := F_Maps_determinant_35.2.1
theorem d_Maps_determinant_38 : decode prog_3_method_10_code 38 = .ok (.laload, 1) := F_Maps_determinant_35.2.2.1
theorem d_Maps_determinant_39 : decode prog_3_method_10_code 39 = .ok (.lmul, 1) := F_Maps_determinant_35.2.2.2.1
theorem d_Maps_determinant_40 : decode prog_3_method_10_code 40 = .ok (.lsub, 1) := F_Maps_determinant_35.2.2.2.2.1
theorem d_Maps_determinant_41 : decode prog_3_method_10_code 41 = .ok (.lmul, 1) := F_Maps_determinant_35.2.2.2.2.2.1
theorem d_Maps_determinant_42 : decode prog_3_method_10_code 42 = .ok (.ladd, 1) := F_Maps_determinant_35.2.2.2.2.2.2.1
theorem d_Maps_determinant_43 : decode prog_3_method_10_code 43 = .ok (.aload_n 0, 1) := F_Maps_determinant_35.2.2.2.2.2.2.2.1
theorem d_Maps_determinant_44 : decode prog_3_method_10_code 44 = .ok (.iconst 2, 1) := F_Maps_determinant_35.2.2.2.2.2.2.2.2.1
theorem d_Maps_determinant_45 : decode prog_3_method_10_code 45 = .ok (.laload, 1) := F_Maps_determinant_35.2.2.2.2.2.2.2.2.2.1
theorem d_Maps_determinant_46 : decode prog_3_method_10_code 46 = .ok (.aload_n 0, 1) := F_Maps_determinant_35.2.2.2.2.2.2.2.2.2.2.1
theorem d_Maps_determinant_47 : decode prog_3_method_10_code 47 = .ok (.iconst 3, 1) := F_Maps_determinant_35.2.2.2.2.2.2.2.2.2.2.2.1
theorem d_Maps_determinant_48 : decode prog_3_method_10_code 48 = .ok (.laload, 1) := F_Maps_determinant_35.2.2.2.2.2.2.2.2.2.2.2.2.1
theorem d_Maps_determinant_49 : decode prog_3_method_10_code 49 = .ok (.aload_n 0, 1) := F_Maps_determinant_35.2.2.2.2.2.2.2.2.2.2.2.2.2.1
theorem d_Maps_determinant_50 : decode prog_3_method_10_code 50 = .ok (.bipush (7), 2) := F_Maps_determinant_35.2.2.2.2.2.2.2.2.2.2.2.2.2.2.1
theorem d_Maps_determinant_52 : decode prog_3_method_10_code 52 = .ok (.laload, 1) := F_Maps_determinant_35.2.2.2.2.2.2.2.2.2.2.2.2.2.2.2.1
theorem d_Maps_determinant_53 : decode prog_3_method_10_code 53 = .ok (.lmul, 1) := F_Maps_determinant_35.2.2.2.2.2.2.2.2.2.2.2.2.2.2.2.2.1
theorem d_Maps_determinant_54 : decode prog_3_method_10_code 54 = .ok (.aload_n 0, 1) := F_Maps_determinant_35.2.2.2.2.2.2.2.2.2.2.2.2.2.2.2.2.2.1
theorem d_Maps_determinant_55 : decode prog_3_method_10_code 55 = .ok (.iconst 4, 1) := F_Maps_determinant_35.2.2.2.2.2.2.2.2.2.2.2.2.2.2.2.2.2.2.1
theorem d_Maps_determinant_56 : decode prog_3_method_10_code 56 = .ok (.laload, 1) := F_Maps_determinant_35.2.2.2.2.2.2.2.2.2.2.2.2.2.2.2.2.2.2.2.1
theorem d_Maps_determinant_57 : decode prog_3_method_10_code 57 = .ok (.aload_n 0, 1) := F_Maps_determinant_35.2.2.2.2.2.2.2.2.2.2.2.2.2.2.2.2.2.2.2.2.1
theorem d_Maps_determinant_58 : decode prog_3_method_10_code 58 = .ok (.bipush (6), 2) := F_Maps_determinant_35.2.2.2.2.2.2.2.2.2.2.2.2.2.2.2.2.2.2.2.2.2.1
theorem d_Maps_determinant_60 : decode prog_3_method_10_code 60 = .ok (.laload, 1) := F_Maps_determinant_35.2.2.2.2.2.2.2.2.2.2.2.2.2.2.2.2.2.2.2.2.2.2.1
theorem d_Maps_determinant_61 : decode prog_3_method_10_code 61 = .ok (.lmul, 1) := F_Maps_determinant_35.2.2.2.2.2.2.2.2.2.2.2.2.2.2.2.2.2.2.2.2.2.2.2.1
theorem d_Maps_determinant_62 : decode prog_3_method_10_code 62 = .ok (.lsub, 1) := F_Maps_determinant_35.2.2.2.2.2.2.2.2.2.2.2.2.2.2.2.2.2.2.2.2.2.2.2.2.1
theorem d_Maps_determinant_63 : decode prog_3_method_10_code 63 = .ok (.lmul, 1) := F_Maps_determinant_35.2.2.2.2.2.2.2.2.2.2.2.2.2.2.2.2.2.2.2.2.2.2.2.2.2.1
theorem d_Maps_determinant_64 : decode prog_3_method_10_code 64 = .ok (.ladd, 1) := F_Maps_determinant_35.2.2.2.2.2.2.2.2.2.2.2.2.2.2.2.2.2.2.2.2.2.2.2.2.2.2.1
theorem d_Maps_determinant_65 : decode prog_3_method_10_code 65 = .ok (.lreturn, 1) := F_Maps_determinant_35.2.2.2.2.2.2.2.2.2.2.2.2.2.2.2.2.2.2.2.2.2.2.2.2.2.2.2.1
theorem F_CM_order_0 : Jvm.Free.DS.Facts prog_1_method_29_code 0 [(.aload_n 0, 1), (.getfield 12, 3), (.iload_n 1, 1), (.invokevirtual 151, 3), (.ifCond .ne (5), 3), (.iconst (-1), 1), (.ireturn, 1), (.getstatic 206, 3), (.aload_n 0, 1), (.getfield 72, 3), (.invokestatic 209, 3), (.iconst 1, 1), (.istore_n 2, 1), (.iload_n 2, 1), (.bipush (12), 2), (.if_icmp .gt (43), 3), (.aload_n 0, 1), (.aload_n 0, 1), (.getfield 12, 3), (.getfield 157, 3), (.iload_n 1, 1), (.aaload, 1), (.invokevirtual 214, 3), (.ifCond .ne (6), 3), (.bipush (-2), 2), (.ireturn, 1), (.aload_n 0, 1), (.getfield 72, 3), (.getstatic 206, 3), (.invokestatic 306, 3), (.ifCond .eq (5), 3), (.iload_n 2, 1)] := Jvm.Free.DS.facts 0 _ (by decide +kernel) (by decide +kernel)
theorem d_CM_order_0 : decode prog_1_method_29_code 0 = .ok (.aload_n 0, 1) := F_CM_order_0.1
theorem d_CM_order_1 : decode prog_1_method_29_code 1 = .ok (.getfield 12, 3) := F_CM_order_0.2.1
theorem d_CM_order_4 : decode prog_1_method_29_code 4 = .ok (.iload_n 1, 1) := F_CM_order_0.2.2.1
theorem d_CM_order_5 : decode prog_1_method_29_code 5 = .ok (.invokevirtual 151, 3) := F_CM_order_0.2.2.2.1
theorem d_CM_order_8 : decode prog_1_method_29_code 8 = .ok (.ifCond .ne (5), 3) := F_CM_order_0.2.2.2.2.1
theorem d_CM_order_11 : decode prog_1_method_29_code 11 = .ok (.iconst (-1), 1) := F_CM_order_0.2.2.2.2.2.1
theorem d_CM_order_12 : decode prog_1_method_29_code 12 = .ok (.ireturn, 1) := F_CM_order_0.2.2.2.2.2.2.1
theorem d_CM_order_13 : decode prog_1_method_29_code 13 = .ok (.getstatic 206, 3) := F_CM_order_0.2.2.2.2.2.2.2.1
theorem d_CM_order_16 : decode prog_1_method_29_code 16 = .ok (.aload_n 0, 1) := F_CM_order_0.2.2.2.2.2.2.2.2.1
theorem d_CM_order_17 : decode prog_1_method_29_code 17 = .ok (.getfield 72, 3) := F_CM_order_0.2.2.2.2.2.2.2.2.2.1
theorem d_CM_order_20 : decode prog_1_method_29_code 20 = .ok (.invokestatic 209, 3) := F_CM_order_0.2.2.2.2.2.2.2.2.2.2.1
theorem d_CM_order_23 : decode prog_1_method_29_code 23 = .ok (.iconst 1, 1) := F_CM_order_0.2.2.2.2.2.2.2.2.2.2.2.1
theorem d_CM_order_24 : decode prog_1_method_29_code 24 = .ok (.istore_n 2, 1) := F_CM_order_0.2.2.2.2.2.2.2.2.2.2.2.2.1
theorem d_CM_order_25 : decode prog_1_method_29_code 25 = .ok (.iload_n 2, 1) := F_CM_order_0.2.2.2.2.2.2.2.2.2.2.2.2.2.1
theorem d_CM_order_26 : decode prog_1_method_29_code 26 = .ok (.bipush (12), 2) := F_CM_order_0.2.2.2.2.2.2.2.2.2.2.2.2.2.2.1
theorem d_CM_order_28 : decode prog_1_method_29_code 28 = .ok (.if_icmp .gt (43), 3) := F_CM_order_0.2.2.2.2.2.2.2.2.2.2.2.2.2.2.2.1
theorem d_CM_order_31 : decode prog_1_method_29_code 31 = .ok (.aload_n 0, 1) := F_CM_order_0.2.2.2.2.2.2.2.2.2.2.2.2.2.2.2.2.1
theorem d_CM_order_32 : decode prog_1_method_29_code 32 = .ok (.aload_n 0, 1) := F_CM_order_0.2.2.2.2.2.2.2.2.2.2.2.2.2.2.2.2.2.1
theorem d_CM_order_33 : decode prog_1_method_29_code 33 = .ok (.getfield 12, 3) := F_CM_order_0.2.2.2.2.2.2.2.2.2.2.2.2.2.2.2.2.2.2.1
theorem d_CM_order_36 : decode prog_1_method_29_code 36 = .ok (.getfield 157, 3) := F_CM_order_0.2.2.2.2.2.2.2.2.2.2.2.2.2.2.2.2.2.2.2.1
theorem d_CM_order_39 : decode prog_1_method_29_code 39 = .ok (.iload_n 1, 1) := F_CM_order_0.2.2.2.2.2.2.2.2.2.2.2.2.2.2.2.2.2.2.2.2.1
theorem d_CM_order_40 : decode prog_1_method_29_code 40 = .ok (.aaload, 1) := F_CM_order_0.2.2.2.2.2.2.2.2.2.2.2.2.2.2.2.2.2.2.2.2.2.1
theorem d_CM_order_41 : decode prog_1_method_29_code 41 = .ok (.invokevirtual 214, 3) := F_CM_order_0.2.2.2.2.2.2.2.2.2.2.2.2.2.2.2.2.2.2.2.2.2.2.1
theorem d_CM_order_44 : decode prog_1_method_29_code 44 = .ok (.ifCond .ne (6), 3) := F_CM_order_0.2.2.2.2.2.2.2.2.2.2.2.2.2.2.2.2.2.2.2.2.2.2.2.1
theorem d_CM_order_47 : decode prog_1_method_29_code 47 = .ok (.bipush (-2), 2) := F_CM_order_0.2.2.2.2.2.2.2.2.2.2.2.2.2.2.2.2.2.2.2.2.2.2.2.2.1
theorem d_CM_order_49 : decode prog_1_method_29_code 49 = .ok (.ireturn, 1) := F_CM_order_0.2.2.2.2.2.2.2.2.2.2.2.2.2.2.2.2.2.2.2.2.2.2.2.2.2.1
theorem d_CM_order_50 : decode prog_1_method_29_code 50 = .ok (.aload_n 0, 1) := F_CM_order_0.2.2.2.2.2.2.2.2.2.2.2.2.2.2.2.2.2.2.2.2.2.2.2.2.2.2.1
theorem d_CM_order_51 : decode prog_1_method_29_code 51 = .ok (.getfield 72, 3) := F_CM_order_0.2.2.2.2.2.2.2.2.2.2.2.2.2.2.2.2.2.2.2.2.2.2.2.2.2.2.2.1
theorem d_CM_order_54 : decode prog_1_method_29_code 54 = .ok (.getstatic 206, 3) := F_CM_order_0.2.2.2.2.2.2.2.2.2.2.2.2.2.2.2.2.2.2.2.2.2.2.2.2.2.2.2.2.1
theorem d_CM_order_57 : decode prog_1_method_29_code 57 = .ok (.invokestatic 306, 3) := F_CM_order_0.2.2.2.2.2.2.2.2.2.2.2.2.2.2.2.2.2.2.2.2.2.2.2.2.2.2.2.2.2.1
theorem d_CM_order_60 : decode prog_1_method_29_code 60 = .ok (.ifCond .eq (5), 3) := F_CM_order_0.2.2.2.2.2.2.2.2.2.2.2.2.2.2.2.2.2.2.2.2.2.2.2.2.2.2.2.2.2.2.1
theorem d_CM_order_63 : decode prog_1_method_29_code 63 = .ok (.iload_n 2, 1) := F_CM_order_0.2.2.2.2.2.2.2.2.2.2.2.2.2.2.2.2.2.2.2.2.2.2.2.2.2.2.2.2.2.2.2.1
theorem F_CM_order_64 : Jvm.Free.DS.Facts prog_1_method_29_code 64 [(.ireturn, 1), (.iinc 2 (1), 3), (.goto (-43), 3), (.bipush (-2), 2), (.ireturn, 1)] := Jvm.Free.DS.facts 64 _ (by decide +kernel) (by decide +kernel)
theorem d_CM_order_64 : decode prog_1_method_29_code 64 = .ok (.ireturn, 1) := F_CM_order_64.1
theorem d_CM_order_65 : decode prog_1_method_29_code 65 = .ok (.iinc 2 (1), 3) := F_CM_order_64.2.1
theorem d_CM_order_68 : decode prog_1_method_29_code 68 = .ok (.goto (-43), 3) := F_CM_order_64.2.2.1
theorem d_CM_order_71 : decode prog_1_method_29_code 71 = .ok (.bipush (-2), 2) := F_CM_order_64.2.2.2.1
theorem d_CM_order_73 : decode prog_1_method_29_code 73 = .ok (.ireturn, 1) := F_CM_order_64.2.2.2.2.1
theorem F_Rows_alike_0 : Jvm.Free.DS.Facts prog_9_method_9_code 0 [(.iconst 0, 1), (.istore_n 2, 1), (.iload_n 2, 1), (.aload_n 0, 1), (.arraylength, 1), (.if_icmp .ge (27), 3), (.iload_n 2, 1), (.aload_n 1, 1), (.arraylength, 1), (.if_icmp .ge (21), 3), (.aload_n 0, 1), (.iload_n 2, 1), (.laload, 1), (.aload_n 1, 1), (.iload_n 2, 1), (.laload, 1), (.lcmp, 1), (.ifCond .eq (5), 3), (.iconst 0, 1), (.ireturn, 1), (.iinc 2 (1), 3), (.goto (-27), 3), (.iconst 1, 1), (.ireturn, 1)] := Jvm.Free.DS.facts 0 _ (by decide +kernel) (by decide +kernel)
theorem d_Rows_alike_0 : decode prog_9_method_9_code 0 = .ok (.iconst 0, 1) := F_Rows_alike_0.1
theorem d_Rows_alike_1 : decode prog_9_method_9_code 1 = .ok (.istore_n 2, 1) := F_Rows_alike_0.2.1
theorem d_Rows_alike_2 : decode prog_9_method_9_code 2 = .ok (.iload_n 2, 1) := F_Rows_alike_0.2.2.1
theorem d_Rows_alike_3 : decode prog_9_method_9_code 3 = .ok (.aload_n 0, 1) := F_Rows_alike_0.2.2.2.1
theorem d_Rows_alike_4 : decode prog_9_method_9_code 4 = .ok (.arraylength, 1) := F_Rows_alike_0.2.2.2.2.1
theorem d_Rows_alike_5 : decode prog_9_method_9_code 5 = .ok (.if_icmp .ge (27), 3) := F_Rows_alike_0.2.2.2.2.2.1
theorem d_Rows_alike_8 : decode prog_9_method_9_code 8 = .ok (.iload_n 2, 1) := F_Rows_alike_0.2.2.2.2.2.2.1
theorem d_Rows_alike_9 : decode prog_9_method_9_code 9 = .ok (.aload_n 1, 1) := F_Rows_alike_0.2.2.2.2.2.2.2.1
theorem d_Rows_alike_10 : decode prog_9_method_9_code 10 = .ok (.arraylength, 1) := F_Rows_alike_0.2.2.2.2.2.2.2.2.1
theorem d_Rows_alike_11 : decode prog_9_method_9_code 11 = .ok (.if_icmp .ge (21), 3) := F_Rows_alike_0.2.2.2.2.2.2.2.2.2.1
theorem d_Rows_alike_14 : decode prog_9_method_9_code 14 = .ok (.aload_n 0, 1) := F_Rows_alike_0.2.2.2.2.2.2.2.2.2.2.1
theorem d_Rows_alike_15 : decode prog_9_method_9_code 15 = .ok (.iload_n 2, 1) := F_Rows_alike_0.2.2.2.2.2.2.2.2.2.2.2.1
theorem d_Rows_alike_16 : decode prog_9_method_9_code 16 = .ok (.laload, 1) := F_Rows_alike_0.2.2.2.2.2.2.2.2.2.2.2.2.1
theorem d_Rows_alike_17 : decode prog_9_method_9_code 17 = .ok (.aload_n 1, 1) := F_Rows_alike_0.2.2.2.2.2.2.2.2.2.2.2.2.2.1
theorem d_Rows_alike_18 : decode prog_9_method_9_code 18 = .ok (.iload_n 2, 1) := F_Rows_alike_0.2.2.2.2.2.2.2.2.2.2.2.2.2.2.1
theorem d_Rows_alike_19 : decode prog_9_method_9_code 19 = .ok (.laload, 1) := F_Rows_alike_0.2.2.2.2.2.2.2.2.2.2.2.2.2.2.2.1
theorem d_Rows_alike_20 : decode prog_9_method_9_code 20 = .ok (.lcmp, 1) := F_Rows_alike_0.2.2.2.2.2.2.2.2.2.2.2.2.2.2.2.2.1
theorem d_Rows_alike_21 : decode prog_9_method_9_code 21 = .ok (.ifCond .eq (5), 3) := F_Rows_alike_0.2.2.2.2.2.2.2.2.2.2.2.2.2.2.2.2.2.1
theorem d_Rows_alike_24 : decode prog_9_method_9_code 24 = .ok (.iconst 0, 1) := F_Rows_alike_0.2.2.2.2.2.2.2.2.2.2.2.2.2.2.2.2.2.2.1
theorem d_Rows_alike_25 : decode prog_9_method_9_code 25 = .ok (.ireturn, 1) := F_Rows_alike_0.2.2.2.2.2.2.2.2.2.2.2.2.2.2.2.2.2.2.2.1
theorem d_Rows_alike_26 : decode prog_9_method_9_code 26 = .ok (.iinc 2 (1), 3) := F_Rows_alike_0.2.2.2.2.2.2.2.2.2.2.2.2.2.2.2.2.2.2.2.2.1
theorem d_Rows_alike_29 : decode prog_9_method_9_code 29 = .ok (.goto (-27), 3) := F_Rows_alike_0.2.2.2.2.2.2.2.2.2.2.2.2.2.2.2.2.2.2.2.2.2.1
theorem d_Rows_alike_32 : decode prog_9_method_9_code 32 = .ok (.iconst 1, 1) := F_Rows_alike_0.2.2.2.2.2.2.2.2.2.2.2.2.2.2.2.2.2.2.2.2.2.2.1
theorem d_Rows_alike_33 : decode prog_9_method_9_code 33 = .ok (.ireturn, 1) := F_Rows_alike_0.2.2.2.2.2.2.2.2.2.2.2.2.2.2.2.2.2.2.2.2.2.2.2.1
theorem F_CM_same_0 : Jvm.Free.DS.Facts prog_1_method_30_code 0 [(.aload_n 0, 1), (.getfield 12, 3), (.iload_n 1, 1), (.invokevirtual 151, 3), (.ifCond .eq (14), 3), (.aload_n 0, 1), (.getfield 12, 3), (.iload_n 2, 1), (.invokevirtual 151, 3), (.ifCond .ne (5), 3), (.iconst (-1), 1), (.ireturn, 1), (.aload_n 0, 1), (.getfield 12, 3), (.getfield 157, 3), (.iload_n 1, 1), (.aaload, 1), (.aload_n 0, 1), (.getfield 12, 3), (.getfield 157, 3), (.iload_n 2, 1), (.aaload, 1), (.invokestatic 306, 3), (.invokestatic 290, 3), (.ireturn, 1)] := Jvm.Free.DS.facts 0 _ (by decide +kernel) (by decide +kernel)
theorem d_CM_same_0 : decode prog_1_method_30_code 0 = .ok (.aload_n 0, 1) := F_CM_same_0.1
theorem d_CM_same_1 : decode prog_1_method_30_code 1 = .ok (.getfield 12, 3) := F_CM_same_0.2.1
theorem d_CM_same_4 : decode prog_1_method_30_code 4 = .ok (.iload_n 1, 1) := F_CM_same_0.2.2.1
theorem d_CM_same_5 : decode prog_1_method_30_code 5 = .ok (.invokevirtual 151, 3) := F_CM_same_0.2.2.2.1
theorem d_CM_same_8 : decode prog_1_method_30_code 8 = .ok (.ifCond .eq (14), 3) := F_CM_same_0.2.2.2.2.1
theorem d_CM_same_11 : decode prog_1_method_30_code 11 = .ok (.aload_n 0, 1) := F_CM_same_0.2.2.2.2.2.1
theorem d_CM_same_12 : decode prog_1_method_30_code 12 = .ok (.getfield 12, 3) := F_CM_same_0.2.2.2.2.2.2.1
theorem d_CM_same_15 : decode prog_1_method_30_code 15 = .ok (.iload_n 2, 1) := F_CM_same_0.2.2.2.2.2.2.2.1
theorem d_CM_same_16 : decode prog_1_method_30_code 16 = .ok (.invokevirtual 151, 3) := F_CM_same_0.2.2.2.2.2.2.2.2.1
theorem d_CM_same_19 : decode prog_1_method_30_code 19 = .ok (.ifCond .ne (5), 3) := F_CM_same_0.2.2.2.2.2.2.2.2.2.1
theorem d_CM_same_22 : decode prog_1_method_30_code 22 = .ok (.iconst (-1), 1) := F_CM_same_0.2.2.2.2.2.2.2.2.2.2.1
theorem d_CM_same_23 : decode prog_1_method_30_code 23 = .ok (.ireturn, 1) := F_CM_same_0.2.2.2.2.2.2.2.2.2.2.2.1
theorem d_CM_same_24 : decode prog_1_method_30_code 24 = .ok (.aload_n 0, 1) := F_CM_same_0.2.2.2.2.2.2.2.2.2.2.2.2.1
theorem d_CM_same_25 : decode prog_1_method_30_code 25 = .ok (.getfield 12, 3) := F_CM_same_0.2.2.2.2.2.2.2.2.2.2.2.2.2.1
theorem d_CM_same_28 : decode prog_1_method_30_code 28 = .ok (.getfield 157, 3) := F_CM_same_0.2.2.2.2.2.2.2.2.2.2.2.2.2.2.1
theorem d_CM_same_31 : decode prog_1_method_30_code 31 = .ok (.iload_n 1, 1) := F_CM_same_0.2.2.2.2.2.2.2.2.2.2.2.2.2.2.2.1
theorem d_CM_same_32 : decode prog_1_method_30_code 32 = .ok (.aaload, 1) := F_CM_same_0.2.2.2.2.2.2.2.2.2.2.2.2.2.2.2.2.1
theorem d_CM_same_33 : decode prog_1_method_30_code 33 = .ok (.aload_n 0, 1) := F_CM_same_0.2.2.2.2.2.2.2.2.2.2.2.2.2.2.2.2.2.1
theorem d_CM_same_34 : decode prog_1_method_30_code 34 = .ok (.getfield 12, 3) := F_CM_same_0.2.2.2.2.2.2.2.2.2.2.2.2.2.2.2.2.2.2.1
theorem d_CM_same_37 : decode prog_1_method_30_code 37 = .ok (.getfield 157, 3) := F_CM_same_0.2.2.2.2.2.2.2.2.2.2.2.2.2.2.2.2.2.2.2.1
theorem d_CM_same_40 : decode prog_1_method_30_code 40 = .ok (.iload_n 2, 1) := F_CM_same_0.2.2.2.2.2.2.2.2.2.2.2.2.2.2.2.2.2.2.2.2.1
theorem d_CM_same_41 : decode prog_1_method_30_code 41 = .ok (.aaload, 1) := F_CM_same_0.2.2.2.2.2.2.2.2.2.2.2.2.2.2.2.2.2.2.2.2.2.1
theorem d_CM_same_42 : decode prog_1_method_30_code 42 = .ok (.invokestatic 306, 3) := F_CM_same_0.2.2.2.2.2.2.2.2.2.2.2.2.2.2.2.2.2.2.2.2.2.2.1
theorem d_CM_same_45 : decode prog_1_method_30_code 45 = .ok (.invokestatic 290, 3) := F_CM_same_0.2.2.2.2.2.2.2.2.2.2.2.2.2.2.2.2.2.2.2.2.2.2.2.1
theorem d_CM_same_48 : decode prog_1_method_30_code 48 = .ok (.ireturn, 1) := F_CM_same_0.2.2.2.2.2.2.2.2.2.2.2.2.2.2.2.2.2.2.2.2.2.2.2.2.1
theorem F_CM_commute_0 : Jvm.Free.DS.Facts prog_1_method_31_code 0 [(.aload_n 0, 1), (.getfield 12, 3), (.iload_n 1, 1), (.invokevirtual 151, 3), (.ifCond .eq (14), 3), (.aload_n 0, 1), (.getfield 12, 3), (.iload_n 2, 1), (.invokevirtual 151, 3), (.ifCond .ne (5), 3), (.iconst (-1), 1), (.ireturn, 1), (.aload_n 0, 1), (.iload_n 1, 1), (.iload_n 2, 1), (.invokevirtual 310, 3), (.invokestatic 290, 3), (.ireturn, 1)] := Jvm.Free.DS.facts 0 _ (by decide +kernel) (by decide +kernel)
theorem d_CM_commute_0 : decode prog_1_method_31_code 0 = .ok (.aload_n 0, 1) := F_CM_commute_0.1
theorem d_CM_commute_1 : decode prog_1_method_31_code 1 = .ok (.getfield 12, 3) := F_CM_commute_0.2.1
theorem d_CM_commute_4 : decode prog_1_method_31_code 4 = .ok (.iload_n 1, 1) := F_CM_commute_0.2.2.1
theorem d_CM_commute_5 : decode prog_1_method_31_code 5 = .ok (.invokevirtual 151, 3) := F_CM_commute_0.2.2.2.1
theorem d_CM_commute_8 : decode prog_1_method_31_code 8 = .ok (.ifCond .eq (14), 3) := F_CM_commute_0.2.2.2.2.1
theorem d_CM_commute_11 : decode prog_1_method_31_code 11 = .ok (.aload_n 0, 1) := F_CM_commute_0.2.2.2.2.2.1
theorem d_CM_commute_12 : decode prog_1_method_31_code 12 = .ok (.getfield 12, 3) := F_CM_commute_0.2.2.2.2.2.2.1
theorem d_CM_commute_15 : decode prog_1_method_31_code 15 = .ok (.iload_n 2, 1) := F_CM_commute_0.2.2.2.2.2.2.2.1
theorem d_CM_commute_16 : decode prog_1_method_31_code 16 = .ok (.invokevirtual 151, 3) := F_CM_commute_0.2.2.2.2.2.2.2.2.1
theorem d_CM_commute_19 : decode prog_1_method_31_code 19 = .ok (.ifCond .ne (5), 3) := F_CM_commute_0.2.2.2.2.2.2.2.2.2.1
theorem d_CM_commute_22 : decode prog_1_method_31_code 22 = .ok (.iconst (-1), 1) := F_CM_commute_0.2.2.2.2.2.2.2.2.2.2.1
theorem d_CM_commute_23 : decode prog_1_method_31_code 23 = .ok (.ireturn, 1) := F_CM_commute_0.2.2.2.2.2.2.2.2.2.2.2.1
theorem d_CM_commute_24 : decode prog_1_method_31_code 24 = .ok (.aload_n 0, 1) := F_CM_commute_0.2.2.2.2.2.2.2.2.2.2.2.2.1
theorem d_CM_commute_25 : decode prog_1_method_31_code 25 = .ok (.iload_n 1, 1) := F_CM_commute_0.2.2.2.2.2.2.2.2.2.2.2.2.2.1
theorem d_CM_commute_26 : decode prog_1_method_31_code 26 = .ok (.iload_n 2, 1) := F_CM_commute_0.2.2.2.2.2.2.2.2.2.2.2.2.2.2.1
theorem d_CM_commute_27 : decode prog_1_method_31_code 27 = .ok (.invokevirtual 310, 3) := F_CM_commute_0.2.2.2.2.2.2.2.2.2.2.2.2.2.2.2.1
theorem d_CM_commute_30 : decode prog_1_method_31_code 30 = .ok (.invokestatic 290, 3) := F_CM_commute_0.2.2.2.2.2.2.2.2.2.2.2.2.2.2.2.2.1
theorem d_CM_commute_33 : decode prog_1_method_31_code 33 = .ok (.ireturn, 1) := F_CM_commute_0.2.2.2.2.2.2.2.2.2.2.2.2.2.2.2.2.2.1
theorem F_CM_doCommute_0 : Jvm.Free.DS.Facts prog_1_method_87_code 0 [(.aload_n 0, 1), (.getfield 12, 3), (.getfield 157, 3), (.iload_n 1, 1), (.aaload, 1), (.aload_n 0, 1), (.getfield 12, 3), (.getfield 157, 3), (.iload_n 2, 1), (.aaload, 1), (.aload_n 0, 1), (.getfield 65, 3), (.invokestatic 196, 3), (.aload_n 0, 1), (.getfield 12, 3), (.getfield 157, 3), (.iload_n 2, 1), (.aaload, 1), (.aload_n 0, 1), (.getfield 12, 3), (.getfield 157, 3), (.iload_n 1, 1), (.aaload, 1), (.aload_n 0, 1), (.getfield 69, 3), (.invokestatic 196, 3), (.aload_n 0, 1), (.getfield 65, 3), (.aload_n 0, 1), (.getfield 69, 3), (.invokestatic 306, 3), (.ireturn, 1)] := Jvm.Free.DS.facts 0 _ (by decide +kernel) (by decide +kernel)
theorem d_CM_doCommute_0 : decode prog_1_method_87_code 0 = .ok (.aload_n 0, 1) := F_CM_doCommute_0.1
theorem d_CM_doCommute_1 : decode prog_1_method_87_code 1 = .ok (.getfield 12, 3) := F_CM_doCommute_0.2.1
theorem d_CM_doCommute_4 : decode prog_1_method_87_code 4 = .ok (.getfield 157, 3) := F_CM_doCommute_0.2.2.1
theorem d_CM_doCommute_7 : decode prog_1_method_87_code 7 = .ok (.iload_n 1, 1) := F_CM_doCommute_0.2.2.2.1
theorem d_CM_doCommute_8 : decode prog_1_method_87_code 8 = .ok (.aaload, 1) := F_CM_doCommute_0.2.2.2.2.1
theorem d_CM_doCommute_9 : decode prog_1_method_87_code 9 = .ok (.aload_n 0, 1) := F_CM_doCommute_0.2.2.2.2.2.1
theorem d_CM_doCommute_10 : decode prog_1_method_87_code 10 = .ok (.getfield 12, 3) := F_CM_doCommute_0.2.2.2.2.2.2.1
theorem d_CM_doCommute_13 : decode prog_1_method_87_code 13 = .ok (.getfield 157, 3) := F_CM_doCommute_0.2.2.2.2.2.2.2.1
theorem d_CM_doCommute_16 : decode prog_1_method_87_code 16 = .ok (.iload_n 2, 1) := F_CM_doCommute_0.2.2.2.2.2.2.2.2.1
theorem d_CM_doCommute_17 : decode prog_1_method_87_code 17 = .ok (.aaload, 1) := F_CM_doCommute_0.2.2.2.2.2.2.2.2.2.1
theorem d_CM_doCommute_18 : decode prog_1_method_87_code 18 = .ok (.aload_n 0, 1) := F_CM_doCommute_0.2.2.2.2.2.2.2.2.2.2.1
theorem d_CM_doCommute_19 : decode prog_1_method_87_code 19 = .ok (.getfield 65, 3) := F_CM_doCommute_0.2.2.2.2.2.2.2.2.2.2.2.1
theorem d_CM_doCommute_22 : decode prog_1_method_87_code 22 = .ok (.invokestatic 196, 3) := F_CM_doCommute_0.2.2.2.2.2.2.2.2.2.2.2.2.1
theorem d_CM_doCommute_25 : decode prog_1_method_87_code 25 = .ok (.aload_n 0, 1) := F_CM_doCommute_0.2.2.2.2.2.2.2.2.2.2.2.2.2.1
theorem d_CM_doCommute_26 : decode prog_1_method_87_code 26 = .ok (.getfield 12, 3) := F_CM_doCommute_0.2.2.2.2.2.2.2.2.2.2.2.2.2.2.1
theorem d_CM_doCommute_29 : decode prog_1_method_87_code 29 = .ok (.getfield 157, 3) := F_CM_doCommute_0.2.2.2.2.2.2.2.2.2.2.2.2.2.2.2.1
theorem d_CM_doCommute_32 : decode prog_1_method_87_code 32 = .ok (.iload_n 2, 1) := F_CM_doCommute_0.2.2.2.2.2.2.2.2.2.2.2.2.2.2.2.2.1
theorem d_CM_doCommute_33 : decode prog_1_method_87_code 33 = .ok (.aaload, 1) := F_CM_doCommute_0.2.2.2.2.2.2.2.2.2.2.2.2.2.2.2.2.2.1
theorem d_CM_doCommute_34 : decode prog_1_method_87_code 34 = .ok (.aload_n 0, 1) := F_CM_doCommute_0.2.2.2.2.2.2.2.2.2.2.2.2.2.2.2.2.2.2.1
theorem d_CM_doCommute_35 : decode prog_1_method_87_code 35 = .ok (.getfield 12, 3) := F_CM_doCommute_0.2.2.2.2.2.2.2.2.2.2.2.2.2.2.2.2.2.2.2.1
theorem d_CM_doCommute_38 : decode prog_1_method_87_code 38 = .ok (.getfield 157, 3) := F_CM_doCommute_0.2.2.2.2.2.2.2.2.2.2.2.2.2.2.2.2.2.2.2.2.1
theorem d_CM_doCommute_41 : decode prog_1_method_87_code 41 = .ok (.iload_n 1, 1) := F_CM_doCommute_0.2.2.2.2.2.2.2.2.2.2.2.2.2.2.2.2.2.2.2.2.2.1
theorem d_CM_doCommute_42 : decode prog_1_method_87_code 42 = .ok (.aaload, 1) := F_CM_doCommute_0.2.2.2.2.2.2.2.2.2.2.2.2.2.2.2.2.2.2.2.2.2.2.1
theorem d_CM_doCommute_43 : decode prog_1_method_87_code 43 = .ok (.aload_n 0, 1) := F_CM_doCommute_0.2.2.2.2.2.2.2.2.2.2.2.2.2.2.2.2.2.2.2.2.2.2.2.1
theorem d_CM_doCommute_44 : decode prog_1_method_87_code 44 = .ok (.getfield 69, 3) := F_CM_doCommute_0.2.2.2.2.2.2.2.2.2.2.2.2.2.2.2.2.2.2.2.2.2.2.2.2.1
theorem d_CM_doCommute_47 : decode prog_1_method_87_code 47 = .ok (.invokestatic 196, 3) := F_CM_doCommute_0.2.2.2.2.2.2.2.2.2.2.2.2.2.2.2.2.2.2.2.2.2.2.2.2.2.1
theorem d_CM_doCommute_50 : decode prog_1_method_87_code 50 = .ok (.aload_n 0, 1) := F_CM_doCommute_0.2.2.2.2.2.2.2.2.2.2.2.2.2.2.2.2.2.2.2.2.2.2.2.2.2.2.1
theorem d_CM_doCommute_51 : decode prog_1_method_87_code 51 = .ok (.getfield 65, 3) := F_CM_doCommute_0.2.2.2.2.2.2.2.2.2.2.2.2.2.2.2.2.2.2.2.2.2.2.2.2.2.2.2.1
theorem d_CM_doCommute_54 : decode prog_1_method_87_code 54 = .ok (.aload_n 0, 1) := F_CM_doCommute_0.2.2.2.2.2.2.2.2.2.2.2.2.2.2.2.2.2.2.2.2.2.2.2.2.2.2.2.2.1
theorem d_CM_doCommute_55 : decode prog_1_method_87_code 55 = .ok (.getfield 69, 3) := F_CM_doCommute_0.2.2.2.2.2.2.2.2.2.2.2.2.2.2.2.2.2.2.2.2.2.2.2.2.2.2.2.2.2.1
theorem d_CM_doCommute_58 : decode prog_1_method_87_code 58 = .ok (.invokestatic 306, 3) := F_CM_doCommute_0.2.2.2.2.2.2.2.2.2.2.2.2.2.2.2.2.2.2.2.2.2.2.2.2.2.2.2.2.2.2.1
theorem d_CM_doCommute_61 : decode prog_1_method_87_code 61 = .ok (.ireturn, 1) := F_CM_doCommute_0.2.2.2.2.2.2.2.2.2.2.2.2.2.2.2.2.2.2.2.2.2.2.2.2.2.2.2.2.2.2.2.1
theorem F_CM_undoes_0 : Jvm.Free.DS.Facts prog_1_method_32_code 0 [(.aload_n 0, 1), (.getfield 12, 3), (.iload_n 1, 1), (.invokevirtual 151, 3), (.ifCond .eq (14), 3), (.aload_n 0, 1), (.getfield 12, 3), (.iload_n 2, 1), (.invokevirtual 151, 3), (.ifCond .ne (5), 3), (.iconst (-1), 1), (.ireturn, 1), (.aload_n 0, 1), (.iload_n 1, 1), (.iload_n 2, 1), (.invokevirtual 314, 3), (.invokestatic 290, 3), (.ireturn, 1)] := Jvm.Free.DS.facts 0 _ (by decide +kernel) (by decide +kernel)
theorem d_CM_undoes_0 : decode prog_1_method_32_code 0 = .ok (.aload_n 0, 1) := F_CM_undoes_0.1
theorem d_CM_undoes_1 : decode prog_1_method_32_code 1 = .ok (.getfield 12, 3) := F_CM_undoes_0.2.1
theorem d_CM_undoes_4 : decode prog_1_method_32_code 4 = .ok (.iload_n 1, 1) := F_CM_undoes_0.2.2.1
theorem d_CM_undoes_5 : decode prog_1_method_32_code 5 = .ok (.invokevirtual 151, 3) := F_CM_undoes_0.2.2.2.1
theorem d_CM_undoes_8 : decode prog_1_method_32_code 8 = .ok (.ifCond .eq (14), 3) := F_CM_undoes_0.2.2.2.2.1
theorem d_CM_undoes_11 : decode prog_1_method_32_code 11 = .ok (.aload_n 0, 1) := F_CM_undoes_0.2.2.2.2.2.1
theorem d_CM_undoes_12 : decode prog_1_method_32_code 12 = .ok (.getfield 12, 3) := F_CM_undoes_0.2.2.2.2.2.2.1
theorem d_CM_undoes_15 : decode prog_1_method_32_code 15 = .ok (.iload_n 2, 1) := F_CM_undoes_0.2.2.2.2.2.2.2.1
theorem d_CM_undoes_16 : decode prog_1_method_32_code 16 = .ok (.invokevirtual 151, 3) := F_CM_undoes_0.2.2.2.2.2.2.2.2.1
theorem d_CM_undoes_19 : decode prog_1_method_32_code 19 = .ok (.ifCond .ne (5), 3) := F_CM_undoes_0.2.2.2.2.2.2.2.2.2.1
theorem d_CM_undoes_22 : decode prog_1_method_32_code 22 = .ok (.iconst (-1), 1) := F_CM_undoes_0.2.2.2.2.2.2.2.2.2.2.1
theorem d_CM_undoes_23 : decode prog_1_method_32_code 23 = .ok (.ireturn, 1) := F_CM_undoes_0.2.2.2.2.2.2.2.2.2.2.2.1
theorem d_CM_undoes_24 : decode prog_1_method_32_code 24 = .ok (.aload_n 0, 1) := F_CM_undoes_0.2.2.2.2.2.2.2.2.2.2.2.2.1
theorem d_CM_undoes_25 : decode prog_1_method_32_code 25 = .ok (.iload_n 1, 1) := F_CM_undoes_0.2.2.2.2.2.2.2.2.2.2.2.2.2.1
theorem d_CM_undoes_26 : decode prog_1_method_32_code 26 = .ok (.iload_n 2, 1) := F_CM_undoes_0.2.2.2.2.2.2.2.2.2.2.2.2.2.2.1
theorem d_CM_undoes_27 : decode prog_1_method_32_code 27 = .ok (.invokevirtual 314, 3) := F_CM_undoes_0.2.2.2.2.2.2.2.2.2.2.2.2.2.2.2.1
theorem d_CM_undoes_30 : decode prog_1_method_32_code 30 = .ok (.invokestatic 290, 3) := F_CM_undoes_0.2.2.2.2.2.2.2.2.2.2.2.2.2.2.2.2.1
theorem d_CM_undoes_33 : decode prog_1_method_32_code 33 = .ok (.ireturn, 1) := F_CM_undoes_0.2.2.2.2.2.2.2.2.2.2.2.2.2.2.2.2.2.1
theorem F_CM_areInverse_0 : Jvm.Free.DS.Facts prog_1_method_88_code 0 [(.aload_n 0, 1), (.getfield 12, 3), (.getfield 157, 3), (.iload_n 1, 1), (.aaload, 1), (.aload_n 0, 1), (.getfield 12, 3), (.getfield 157, 3), (.iload_n 2, 1), (.aaload, 1), (.aload_n 0, 1), (.getfield 65, 3), (.invokestatic 196, 3), (.aload_n 0, 1), (.getfield 65, 3), (.getstatic 206, 3), (.invokestatic 306, 3), (.ireturn, 1)] := Jvm.Free.DS.facts 0 _ (by decide +kernel) (by decide +kernel)
theorem d_CM_areInverse_0 : decode prog_1_method_88_code 0 = .ok (.aload_n 0, 1) := F_CM_areInverse_0.1
theorem d_CM_areInverse_1 : decode prog_1_method_88_code 1 = .ok (.getfield 12, 3) := F_CM_areInverse_0.2.1
theorem d_CM_areInverse_4 : decode prog_1_method_88_code 4 = .ok (.getfield 157, 3) := F_CM_areInverse_0.2.2.1
theorem d_CM_areInverse_7 : decode prog_1_method_88_code 7 = .ok (.iload_n 1, 1) := F_CM_areInverse_0.2.2.2.1
theorem d_CM_areInverse_8 : decode prog_1_method_88_code 8 = .ok (.aaload, 1) := F_CM_areInverse_0.2.2.2.2.1
theorem d_CM_areInverse_9 : decode prog_1_method_88_code 9 = .ok (.aload_n 0, 1) := F_CM_areInverse_0.2.2.2.2.2.1
theorem d_CM_areInverse_10 : decode prog_1_method_88_code 10 = .ok (.getfield 12, 3) := F_CM_areInverse_0.2.2.2.2.2.2.1
theorem d_CM_areInverse_13 : decode prog_1_method_88_code 13 = .ok (.getfield 157, 3) := F_CM_areInverse_0.2.2.2.2.2.2.2.1
theorem d_CM_areInverse_16 : decode prog_1_method_88_code 16 = .ok (.iload_n 2, 1) := F_CM_areInverse_0.2.2.2.2.2.2.2.2.1
theorem d_CM_areInverse_17 : decode prog_1_method_88_code 17 = .ok (.aaload, 1) := F_CM_areInverse_0.2.2.2.2.2.2.2.2.2.1
theorem d_CM_areInverse_18 : decode prog_1_method_88_code 18 = .ok (.aload_n 0, 1) := F_CM_areInverse_0.2.2.2.2.2.2.2.2.2.2.1
theorem d_CM_areInverse_19 : decode prog_1_method_88_code 19 = .ok (.getfield 65, 3) := F_CM_areInverse_0.2.2.2.2.2.2.2.2.2.2.2.1
theorem d_CM_areInverse_22 : decode prog_1_method_88_code 22 = .ok (.invokestatic 196, 3) := F_CM_areInverse_0.2.2.2.2.2.2.2.2.2.2.2.2.1
theorem d_CM_areInverse_25 : decode prog_1_method_88_code 25 = .ok (.aload_n 0, 1) := F_CM_areInverse_0.2.2.2.2.2.2.2.2.2.2.2.2.2.1
theorem d_CM_areInverse_26 : decode prog_1_method_88_code 26 = .ok (.getfield 65, 3) := F_CM_areInverse_0.2.2.2.2.2.2.2.2.2.2.2.2.2.2.1
theorem d_CM_areInverse_29 : decode prog_1_method_88_code 29 = .ok (.getstatic 206, 3) := F_CM_areInverse_0.2.2.2.2.2.2.2.2.2.2.2.2.2.2.2.1
theorem d_CM_areInverse_32 : decode prog_1_method_88_code 32 = .ok (.invokestatic 306, 3) := F_CM_areInverse_0.2.2.2.2.2.2.2.2.2.2.2.2.2.2.2.2.1
theorem d_CM_areInverse_35 : decode prog_1_method_88_code 35 = .ok (.ireturn, 1) := F_CM_areInverse_0.2.2.2.2.2.2.2.2.2.2.2.2.2.2.2.2.2.1
theorem F_CM_stays_0 : Jvm.Free.DS.Facts prog_1_method_33_code 0 [(.aload_n 0, 1), (.getfield 12, 3), (.iload_n 1, 1), (.invokevirtual 151, 3), (.ifCond .eq (14), 3), (.aload_n 0, 1), (.getfield 12, 3), (.iload_n 2, 1), (.invokevirtual 160, 3), (.ifCond .ne (5), 3), (.iconst (-1), 1), (.ireturn, 1), (.aload_n 0, 1), (.aload_n 0, 1), (.getfield 12, 3), (.getfield 157, 3), (.iload_n 1, 1), (.aaload, 1), (.aload_n 0, 1), (.getfield 12, 3), (.getfield 163, 3), (.iload_n 2, 1), (.aaload, 1), (.invokevirtual 317, 3), (.invokestatic 290, 3), (.ireturn, 1)] := Jvm.Free.DS.facts 0 _ (by decide +kernel) (by decide +kernel)
theorem d_CM_stays_0 : decode prog_1_method_33_code 0 = .ok (.aload_n 0, 1) := F_CM_stays_0.1
theorem d_CM_stays_1 : decode prog_1_method_33_code 1 = .ok (.getfield 12, 3) := F_CM_stays_0.2.1
theorem d_CM_stays_4 : decode prog_1_method_33_code 4 = .ok (.iload_n 1, 1) := F_CM_stays_0.2.2.1
theorem d_CM_stays_5 : decode prog_1_method_33_code 5 = .ok (.invokevirtual 151, 3) := F_CM_stays_0.2.2.2.1
theorem d_CM_stays_8 : decode prog_1_method_33_code 8 = .ok (.ifCond .eq (14), 3) := F_CM_stays_0.2.2.2.2.1
theorem d_CM_stays_11 : decode prog_1_method_33_code 11 = .ok (.aload_n 0, 1) := F_CM_stays_0.2.2.2.2.2.1
theorem d_CM_stays_12 : decode prog_1_method_33_code 12 = .ok (.getfield 12, 3) := F_CM_stays_0.2.2.2.2.2.2.1
theorem d_CM_stays_15 : decode prog_1_method_33_code 15 = .ok (.iload_n 2, 1) := F_CM_stays_0.2.2.2.2.2.2.2.1
theorem d_CM_stays_16 : decode prog_1_method_33_code 16 = .ok (.invokevirtual 160, 3) := F_CM_stays_0.2.2.2.2.2.2.2.2.1
theorem d_CM_stays_19 : decode prog_1_method_33_code 19 = .ok (.ifCond .ne (5), 3) := F_CM_stays_0.2.2.2.2.2.2.2.2.2.1
theorem d_CM_stays_22 : decode prog_1_method_33_code 22 = .ok (.iconst (-1), 1) := F_CM_stays_0.2.2.2.2.2.2.2.2.2.2.1
theorem d_CM_stays_23 : decode prog_1_method_33_code 23 = .ok (.ireturn, 1) := F_CM_stays_0.2.2.2.2.2.2.2.2.2.2.2.1
theorem d_CM_stays_24 : decode prog_1_method_33_code 24 = .ok (.aload_n 0, 1) := F_CM_stays_0.2.2.2.2.2.2.2.2.2.2.2.2.1
theorem d_CM_stays_25 : decode prog_1_method_33_code 25 = .ok (.aload_n 0, 1) := F_CM_stays_0.2.2.2.2.2.2.2.2.2.2.2.2.2.1
theorem d_CM_stays_26 : decode prog_1_method_33_code 26 = .ok (.getfield 12, 3) := F_CM_stays_0.2.2.2.2.2.2.2.2.2.2.2.2.2.2.1
theorem d_CM_stays_29 : decode prog_1_method_33_code 29 = .ok (.getfield 157, 3) := F_CM_stays_0.2.2.2.2.2.2.2.2.2.2.2.2.2.2.2.1
theorem d_CM_stays_32 : decode prog_1_method_33_code 32 = .ok (.iload_n 1, 1) := F_CM_stays_0.2.2.2.2.2.2.2.2.2.2.2.2.2.2.2.2.1
theorem d_CM_stays_33 : decode prog_1_method_33_code 33 = .ok (.aaload, 1) := F_CM_stays_0.2.2.2.2.2.2.2.2.2.2.2.2.2.2.2.2.2.1
theorem d_CM_stays_34 : decode prog_1_method_33_code 34 = .ok (.aload_n 0, 1) := F_CM_stays_0.2.2.2.2.2.2.2.2.2.2.2.2.2.2.2.2.2.2.1
theorem d_CM_stays_35 : decode prog_1_method_33_code 35 = .ok (.getfield 12, 3) := F_CM_stays_0.2.2.2.2.2.2.2.2.2.2.2.2.2.2.2.2.2.2.2.1
theorem d_CM_stays_38 : decode prog_1_method_33_code 38 = .ok (.getfield 163, 3) := F_CM_stays_0.2.2.2.2.2.2.2.2.2.2.2.2.2.2.2.2.2.2.2.2.1
theorem d_CM_stays_41 : decode prog_1_method_33_code 41 = .ok (.iload_n 2, 1) := F_CM_stays_0.2.2.2.2.2.2.2.2.2.2.2.2.2.2.2.2.2.2.2.2.2.1
theorem d_CM_stays_42 : decode prog_1_method_33_code 42 = .ok (.aaload, 1) := F_CM_stays_0.2.2.2.2.2.2.2.2.2.2.2.2.2.2.2.2.2.2.2.2.2.2.1
theorem d_CM_stays_43 : decode prog_1_method_33_code 43 = .ok (.invokevirtual 317, 3) := F_CM_stays_0.2.2.2.2.2.2.2.2.2.2.2.2.2.2.2.2.2.2.2.2.2.2.2.1
theorem d_CM_stays_46 : decode prog_1_method_33_code 46 = .ok (.invokestatic 290, 3) := F_CM_stays_0.2.2.2.2.2.2.2.2.2.2.2.2.2.2.2.2.2.2.2.2.2.2.2.2.1
theorem d_CM_stays_49 : decode prog_1_method_33_code 49 = .ok (.ireturn, 1) := F_CM_stays_0.2.2.2.2.2.2.2.2.2.2.2.2.2.2.2.2.2.2.2.2.2.2.2.2.2.1
theorem F_CM_isKept_0 : Jvm.Free.DS.Facts prog_1_method_95_code 0 [(.aload_n 1, 1), (.aload_n 2, 1), (.aload_n 0, 1), (.getfield 78, 3), (.invokestatic 248, 3), (.aload_n 0, 1), (.getfield 78, 3), (.aload_n 2, 1), (.invokestatic 306, 3), (.ireturn, 1)] := Jvm.Free.DS.facts 0 _ (by decide +kernel) (by decide +kernel)
theorem d_CM_isKept_0 : decode prog_1_method_95_code 0 = .ok (.aload_n 1, 1) := F_CM_isKept_0.1
theorem d_CM_isKept_1 : decode prog_1_method_95_code 1 = .ok (.aload_n 2, 1) := F_CM_isKept_0.2.1
theorem d_CM_isKept_2 : decode prog_1_method_95_code 2 = .ok (.aload_n 0, 1) := F_CM_isKept_0.2.2.1
theorem d_CM_isKept_3 : decode prog_1_method_95_code 3 = .ok (.getfield 78, 3) := F_CM_isKept_0.2.2.2.1
theorem d_CM_isKept_6 : decode prog_1_method_95_code 6 = .ok (.invokestatic 248, 3) := F_CM_isKept_0.2.2.2.2.1
theorem d_CM_isKept_9 : decode prog_1_method_95_code 9 = .ok (.aload_n 0, 1) := F_CM_isKept_0.2.2.2.2.2.1
theorem d_CM_isKept_10 : decode prog_1_method_95_code 10 = .ok (.getfield 78, 3) := F_CM_isKept_0.2.2.2.2.2.2.1
theorem d_CM_isKept_13 : decode prog_1_method_95_code 13 = .ok (.aload_n 2, 1) := F_CM_isKept_0.2.2.2.2.2.2.2.1
theorem d_CM_isKept_14 : decode prog_1_method_95_code 14 = .ok (.invokestatic 306, 3) := F_CM_isKept_0.2.2.2.2.2.2.2.2.1
theorem d_CM_isKept_17 : decode prog_1_method_95_code 17 = .ok (.ireturn, 1) := F_CM_isKept_0.2.2.2.2.2.2.2.2.2.1
theorem F_CM_points_0 : Jvm.Free.DS.Facts prog_1_method_34_code 0 [(.aload_n 0, 1), (.getfield 12, 3), (.iload_n 1, 1), (.invokevirtual 151, 3), (.ifCond .eq (10), 3), (.iload_n 2, 1), (.invokestatic 154, 3), (.ifCond .ne (5), 3), (.iconst (-1), 1), (.ireturn, 1), (.iconst 0, 1), (.istore_n 3, 1), (.iconst 0, 1), (.istore 4, 2), (.iload 4, 2), (.aload_n 0, 1), (.getfield 12, 3), (.getfield 232, 3), (.if_icmp .ge (39), 3), (.aload_n 0, 1), (.aload_n 0, 1), (.getfield 12, 3), (.getfield 157, 3), (.iload_n 1, 1), (.aaload, 1), (.aload_n 0, 1), (.getfield 12, 3), (.getfield 163, 3), (.iload 4, 2), (.aaload, 1), (.iload_n 2, 1), (.invokevirtual 320, 3)] := Jvm.Free.DS.facts 0 _ (by decide +kernel) (by decide +kernel)
theorem d_CM_points_0 : decode prog_1_method_34_code 0 = .ok (.aload_n 0, 1) := F_CM_points_0.1
theorem d_CM_points_1 : decode prog_1_method_34_code 1 = .ok (.getfield 12, 3) := F_CM_points_0.2.1
theorem d_CM_points_4 : decode prog_1_method_34_code 4 = .ok (.iload_n 1, 1) := F_CM_points_0.2.2.1
theorem d_CM_points_5 : decode prog_1_method_34_code 5 = .ok (.invokevirtual 151, 3) := F_CM_points_0.2.2.2.1
theorem d_CM_points_8 : decode prog_1_method_34_code 8 = .ok (.ifCond .eq (10), 3) := F_CM_points_0.2.2.2.2.1
theorem d_CM_points_11 : decode prog_1_method_34_code 11 = .ok (.iload_n 2, 1) := F_CM_points_0.2.2.2.2.2.1
theorem d_CM_points_12 : decode prog_1_method_34_code 12 = .ok (.invokestatic 154, 3) := F_CM_points_0.2.2.2.2.2.2.1
theorem d_CM_points_15 : decode prog_1_method_34_code 15 = .ok (.ifCond .ne (5), 3) := F_CM_points_0.2.2.2.2.2.2.2.1
theorem d_CM_points_18 : decode prog_1_method_34_code 18 = .ok (.iconst (-1), 1) := F_CM_points_0.2.2.2.2.2.2.2.2.1
theorem d_CM_points_19 : decode prog_1_method_34_code 19 = .ok (.ireturn, 1) := F_CM_points_0.2.2.2.2.2.2.2.2.2.1
theorem d_CM_points_20 : decode prog_1_method_34_code 20 = .ok (.iconst 0, 1) := F_CM_points_0.2.2.2.2.2.2.2.2.2.2.1
theorem d_CM_points_21 : decode prog_1_method_34_code 21 = .ok (.istore_n 3, 1) := F_CM_points_0.2.2.2.2.2.2.2.2.2.2.2.1
theorem d_CM_points_22 : decode prog_1_method_34_code 22 = .ok (.iconst 0, 1) := F_CM_points_0.2.2.2.2.2.2.2.2.2.2.2.2.1
theorem d_CM_points_23 : decode prog_1_method_34_code 23 = .ok (.istore 4, 2) := F_CM_points_0.2.2.2.2.2.2.2.2.2.2.2.2.2.1
theorem d_CM_points_25 : decode prog_1_method_34_code 25 = .ok (.iload 4, 2) := F_CM_points_0.2.2.2.2.2.2.2.2.2.2.2.2.2.2.1
theorem d_CM_points_27 : decode prog_1_method_34_code 27 = .ok (.aload_n 0, 1) := F_CM_points_0.2.2.2.2.2.2.2.2.2.2.2.2.2.2.2.1
theorem d_CM_points_28 : decode prog_1_method_34_code 28 = .ok (.getfield 12, 3) := F_CM_points_0.2.2.2.2.2.2.2.2.2.2.2.2.2.2.2.2.1
theorem d_CM_points_31 : decode prog_1_method_34_code 31 = .ok (.getfield 232, 3) := F_CM_points_0.2.2.2.2.2.2.2.2.2.2.2.2.2.2.2.2.2.1
theorem d_CM_points_34 : decode prog_1_method_34_code 34 = .ok (.if_icmp .ge (39), 3) := F_CM_points_0.2.2.2.2.2.2.2.2.2.2.2.2.2.2.2.2.2.2.1
theorem d_CM_points_37 : decode prog_1_method_34_code 37 = .ok (.aload_n 0, 1) := F_CM_points_0.2.2.2.2.2.2.2.2.2.2.2.2.2.2.2.2.2.2.2.1
theorem d_CM_points_38 : decode prog_1_method_34_code 38 = .ok (.aload_n 0, 1) := F_CM_points_0.2.2.2.2.2.2.2.2.2.2.2.2.2.2.2.2.2.2.2.2.1
theorem d_CM_points_39 : decode prog_1_method_34_code 39 = .ok (.getfield 12, 3) := F_CM_points_0.2.2.2.2.2.2.2.2.2.2.2.2.2.2.2.2.2.2.2.2.2.1
theorem d_CM_points_42 : decode prog_1_method_34_code 42 = .ok (.getfield 157, 3) := F_CM_points_0.2.2.2.2.2.2.2.2.2.2.2.2.2.2.2.2.2.2.2.2.2.2.1
theorem d_CM_points_45 : decode prog_1_method_34_code 45 = .ok (.iload_n 1, 1) := F_CM_points_0.2.2.2.2.2.2.2.2.2.2.2.2.2.2.2.2.2.2.2.2.2.2.2.1
theorem d_CM_points_46 : decode prog_1_method_34_code 46 = .ok (.aaload, 1) := F_CM_points_0.2.2.2.2.2.2.2.2.2.2.2.2.2.2.2.2.2.2.2.2.2.2.2.2.1
theorem d_CM_points_47 : decode prog_1_method_34_code 47 = .ok (.aload_n 0, 1) := F_CM_points_0.2.2.2.2.2.2.2.2.2.2.2.2.2.2.2.2.2.2.2.2.2.2.2.2.2.1
theorem d_CM_points_48 : decode prog_1_method_34_code 48 = .ok (.getfield 12, 3) := F_CM_points_0.2.2.2.2.2.2.2.2.2.2.2.2.2.2.2.2.2.2.2.2.2.2.2.2.2.2.1
theorem d_CM_points_51 : decode prog_1_method_34_code 51 = .ok (.getfield 163, 3) := F_CM_points_0.2.2.2.2.2.2.2.2.2.2.2.2.2.2.2.2.2.2.2.2.2.2.2.2.2.2.2.1
theorem d_CM_points_54 : decode prog_1_method_34_code 54 = .ok (.iload 4, 2) := F_CM_points_0.2.2.2.2.2.2.2.2.2.2.2.2.2.2.2.2.2.2.2.2.2.2.2.2.2.2.2.2.1
theorem d_CM_points_56 : decode prog_1_method_34_code 56 = .ok (.aaload, 1) := F_CM_points_0.2.2.2.2.2.2.2.2.2.2.2.2.2.2.2.2.2.2.2.2.2.2.2.2.2.2.2.2.2.1
theorem d_CM_points_57 : decode prog_1_method_34_code 57 = .ok (.iload_n 2, 1) := F_CM_points_0.2.2.2.2.2.2.2.2.2.2.2.2.2.2.2.2.2.2.2.2.2.2.2.2.2.2.2.2.2.2.1
theorem d_CM_points_58 : decode prog_1_method_34_code 58 = .ok (.invokevirtual 320, 3) := F_CM_points_0.2.2.2.2.2.2.2.2.2.2.2.2.2.2.2.2.2.2.2.2.2.2.2.2.2.2.2.2.2.2.2.1
theorem F_CM_points_61 : Jvm.Free.DS.Facts prog_1_method_34_code 61 [(.ifCond .eq (6), 3), (.iinc 3 (1), 3), (.iinc 4 (1), 3), (.goto (-45), 3), (.iload_n 3, 1), (.ireturn, 1)] := Jvm.Free.DS.facts 61 _ (by decide +kernel) (by decide +kernel)
theorem d_CM_points_61 : decode prog_1_method_34_code 61 = .ok (.ifCond .eq (6), 3) := F_CM_points_61.1
theorem d_CM_points_64 : decode prog_1_method_34_code 64 = .ok (.iinc 3 (1), 3) := F_CM_points_61.2.1
theorem d_CM_points_67 : decode prog_1_method_34_code 67 = .ok (.iinc 4 (1), 3) := F_CM_points_61.2.2.1
theorem d_CM_points_70 : decode prog_1_method_34_code 70 = .ok (.goto (-45), 3) := F_CM_points_61.2.2.2.1
theorem d_CM_points_73 : decode prog_1_method_34_code 73 = .ok (.iload_n 3, 1) := F_CM_points_61.2.2.2.2.1
theorem d_CM_points_74 : decode prog_1_method_34_code 74 = .ok (.ireturn, 1) := F_CM_points_61.2.2.2.2.2.1
theorem F_CM_isOfSort_0 : Jvm.Free.DS.Facts prog_1_method_96_code 0 [(.iload_n 3, 1), (.ifCond .ne (10), 3), (.aload_n 0, 1), (.aload_n 1, 1), (.aload_n 2, 1), (.invokevirtual 317, 3), (.ireturn, 1), (.aload_n 1, 1), (.aload_n 2, 1), (.invokestatic 375, 3), (.lconst 0, 1), (.lcmp, 1), (.ifCond .eq (7), 3), (.iconst 1, 1), (.goto (4), 3), (.iconst 0, 1), (.istore 4, 2), (.iload_n 3, 1), (.iconst 1, 1), (.if_icmp .ne (16), 3), (.iload 4, 2), (.ifCond .ne (7), 3), (.iconst 1, 1), (.goto (24), 3), (.iconst 0, 1), (.goto (20), 3), (.iload 4, 2), (.ifCond .eq (14), 3), (.aload_n 2, 1), (.invokestatic 283, 3), (.ifCond .ne (7), 3), (.iconst 1, 1)] := Jvm.Free.DS.facts 0 _ (by decide +kernel) (by decide +kernel)
theorem d_CM_isOfSort_0 : decode prog_1_method_96_code 0 = .ok (.iload_n 3, 1) := F_CM_isOfSort_0.1
theorem d_CM_isOfSort_1 : decode prog_1_method_96_code 1 = .ok (.ifCond .ne (10), 3) := F_CM_isOfSort_0.2.1
theorem d_CM_isOfSort_4 : decode prog_1_method_96_code 4 = .ok (.aload_n 0, 1) := F_CM_isOfSort_0.2.2.1
theorem d_CM_isOfSort_5 : decode prog_1_method_96_code 5 = .ok (.aload_n 1, 1) := F_CM_isOfSort_0.2.2.2.1
theorem d_CM_isOfSort_6 : decode prog_1_method_96_code 6 = .ok (.aload_n 2, 1) := F_CM_isOfSort_0.2.2.2.2.1
theorem d_CM_isOfSort_7 : decode prog_1_method_96_code 7 = .ok (.invokevirtual 317, 3) := F_CM_isOfSort_0.2.2.2.2.2.1
theorem d_CM_isOfSort_10 : decode prog_1_method_96_code 10 = .ok (.ireturn, 1) := F_CM_isOfSort_0.2.2.2.2.2.2.1
theorem d_CM_isOfSort_11 : decode prog_1_method_96_code 11 = .ok (.aload_n 1, 1) := F_CM_isOfSort_0.2.2.2.2.2.2.2.1
theorem d_CM_isOfSort_12 : decode prog_1_method_96_code 12 = .ok (.aload_n 2, 1) := F_CM_isOfSort_0.2.2.2.2.2.2.2.2.1
theorem d_CM_isOfSort_13 : decode prog_1_method_96_code 13 = .ok (.invokestatic 375, 3) := F_CM_isOfSort_0.2.2.2.2.2.2.2.2.2.1
theorem d_CM_isOfSort_16 : decode prog_1_method_96_code 16 = .ok (.lconst 0, 1) := F_CM_isOfSort_0.2.2.2.2.2.2.2.2.2.2.1
theorem d_CM_isOfSort_17 : decode prog_1_method_96_code 17 = .ok (.lcmp, 1) := F_CM_isOfSort_0.2.2.2.2.2.2.2.2.2.2.2.1
theorem d_CM_isOfSort_18 : decode prog_1_method_96_code 18 = .ok (.ifCond .eq (7), 3) := F_CM_isOfSort_0.2.2.2.2.2.2.2.2.2.2.2.2.1
theorem d_CM_isOfSort_21 : decode prog_1_method_96_code 21 = .ok (.iconst 1, 1) := F_CM_isOfSort_0.2.2.2.2.2.2.2.2.2.2.2.2.2.1
theorem d_CM_isOfSort_22 : decode prog_1_method_96_code 22 = .ok (.goto (4), 3) := F_CM_isOfSort_0.2.2.2.2.2.2.2.2.2.2.2.2.2.2.1
theorem d_CM_isOfSort_25 : decode prog_1_method_96_code 25 = .ok (.iconst 0, 1) := F_CM_isOfSort_0.2.2.2.2.2.2.2.2.2.2.2.2.2.2.2.1
theorem d_CM_isOfSort_26 : decode prog_1_method_96_code 26 = .ok (.istore 4, 2) := F_CM_isOfSort_0.2.2.2.2.2.2.2.2.2.2.2.2.2.2.2.2.1
theorem d_CM_isOfSort_28 : decode prog_1_method_96_code 28 = .ok (.iload_n 3, 1) := F_CM_isOfSort_0.2.2.2.2.2.2.2.2.2.2.2.2.2.2.2.2.2.1
theorem d_CM_isOfSort_29 : decode prog_1_method_96_code 29 = .ok (.iconst 1, 1) := F_CM_isOfSort_0.2.2.2.2.2.2.2.2.2.2.2.2.2.2.2.2.2.2.1
theorem d_CM_isOfSort_30 : decode prog_1_method_96_code 30 = .ok (.if_icmp .ne (16), 3) := F_CM_isOfSort_0.2.2.2.2.2.2.2.2.2.2.2.2.2.2.2.2.2.2.2.1
theorem d_CM_isOfSort_33 : decode prog_1_method_96_code 33 = .ok (.iload 4, 2) := F_CM_isOfSort_0.2.2.2.2.2.2.2.2.2.2.2.2.2.2.2.2.2.2.2.2.1
theorem d_CM_isOfSort_35 : decode prog_1_method_96_code 35 = .ok (.ifCond .ne (7), 3) := F_CM_isOfSort_0.2.2.2.2.2.2.2.2.2.2.2.2.2.2.2.2.2.2.2.2.2.1
theorem d_CM_isOfSort_38 : decode prog_1_method_96_code 38 = .ok (.iconst 1, 1) := F_CM_isOfSort_0.2.2.2.2.2.2.2.2.2.2.2.2.2.2.2.2.2.2.2.2.2.2.1
theorem d_CM_isOfSort_39 : decode prog_1_method_96_code 39 = .ok (.goto (24), 3) := F_CM_isOfSort_0.2.2.2.2.2.2.2.2.2.2.2.2.2.2.2.2.2.2.2.2.2.2.2.1
theorem d_CM_isOfSort_42 : decode prog_1_method_96_code 42 = .ok (.iconst 0, 1) := F_CM_isOfSort_0.2.2.2.2.2.2.2.2.2.2.2.2.2.2.2.2.2.2.2.2.2.2.2.2.1
theorem d_CM_isOfSort_43 : decode prog_1_method_96_code 43 = .ok (.goto (20), 3) := F_CM_isOfSort_0.2.2.2.2.2.2.2.2.2.2.2.2.2.2.2.2.2.2.2.2.2.2.2.2.2.1
theorem d_CM_isOfSort_46 : decode prog_1_method_96_code 46 = .ok (.iload 4, 2) := F_CM_isOfSort_0.2.2.2.2.2.2.2.2.2.2.2.2.2.2.2.2.2.2.2.2.2.2.2.2.2.2.1
theorem d_CM_isOfSort_48 : decode prog_1_method_96_code 48 = .ok (.ifCond .eq (14), 3) := F_CM_isOfSort_0.2.2.2.2.2.2.2.2.2.2.2.2.2.2.2.2.2.2.2.2.2.2.2.2.2.2.2.1
theorem d_CM_isOfSort_51 : decode prog_1_method_96_code 51 = .ok (.aload_n 2, 1) := F_CM_isOfSort_0.2.2.2.2.2.2.2.2.2.2.2.2.2.2.2.2.2.2.2.2.2.2.2.2.2.2.2.2.1
theorem d_CM_isOfSort_52 : decode prog_1_method_96_code 52 = .ok (.invokestatic 283, 3) := F_CM_isOfSort_0.2.2.2.2.2.2.2.2.2.2.2.2.2.2.2.2.2.2.2.2.2.2.2.2.2.2.2.2.2.1
theorem d_CM_isOfSort_55 : decode prog_1_method_96_code 55 = .ok (.ifCond .ne (7), 3) := F_CM_isOfSort_0.2.2.2.2.2.2.2.2.2.2.2.2.2.2.2.2.2.2.2.2.2.2.2.2.2.2.2.2.2.2.1
theorem d_CM_isOfSort_58 : decode prog_1_method_96_code 58 = .ok (.iconst 1, 1) := F_CM_isOfSort_0.2.2.2.2.2.2.2.2.2.2.2.2.2.2.2.2.2.2.2.2.2.2.2.2.2.2.2.2.2.2.2.1
theorem F_CM_isOfSort_59 : Jvm.Free.DS.Facts prog_1_method_96_code 59 [(.goto (4), 3), (.iconst 0, 1), (.ireturn, 1)] := Jvm.Free.DS.facts 59 _ (by decide +kernel) (by decide +kernel)
theorem d_CM_isOfSort_59 : decode prog_1_method_96_code 59 = .ok (.goto (4), 3) := F_CM_isOfSort_59.1
theorem d_CM_isOfSort_62 : decode prog_1_method_96_code 62 = .ok (.iconst 0, 1) := F_CM_isOfSort_59.2.1
theorem d_CM_isOfSort_63 : decode prog_1_method_96_code 63 = .ok (.ireturn, 1) := F_CM_isOfSort_59.2.2.1
theorem F_CM_join_0 : Jvm.Free.DS.Facts prog_1_method_35_code 0 [(.aload_n 0, 1), (.getfield 12, 3), (.iload_n 1, 1), (.invokevirtual 160, 3), (.ifCond .eq (21), 3), (.aload_n 0, 1), (.getfield 12, 3), (.iload_n 2, 1), (.invokevirtual 160, 3), (.ifCond .eq (10), 3), (.iload_n 3, 1), (.invokestatic 154, 3), (.ifCond .ne (7), 3), (.ldc2_w 270, 3), (.lreturn, 1), (.aload_n 0, 1), (.getfield 12, 3), (.getfield 163, 3), (.iload_n 1, 1), (.aaload, 1), (.aload_n 0, 1), (.getfield 12, 3), (.getfield 163, 3), (.iload_n 2, 1), (.aaload, 1), (.aload_n 0, 1), (.getfield 78, 3), (.invokestatic 324, 3), (.ifCond .ne (7), 3), (.ldc2_w 275, 3), (.lreturn, 1), (.aload_n 0, 1)] := Jvm.Free.DS.facts 0 _ (by decide +kernel) (by decide +kernel)
theorem d_CM_join_0 : decode prog_1_method_35_code 0 = .ok (.aload_n 0, 1) := F_CM_join_0.1
theorem d_CM_join_1 : decode prog_1_method_35_code 1 = .ok (.getfield 12, 3) := F_CM_join_0.2.1
theorem d_CM_join_4 : decode prog_1_method_35_code 4 = .ok (.iload_n 1, 1) := F_CM_join_0.2.2.1
theorem d_CM_join_5 : decode prog_1_method_35_code 5 = .ok (.invokevirtual 160, 3) := F_CM_join_0.2.2.2.1
theorem d_CM_join_8 : decode prog_1_method_35_code 8 = .ok (.ifCond .eq (21), 3) := F_CM_join_0.2.2.2.2.1
theorem d_CM_join_11 : decode prog_1_method_35_code 11 = .ok (.aload_n 0, 1) := F_CM_join_0.2.2.2.2.2.1
theorem d_CM_join_12 : decode prog_1_method_35_code 12 = .ok (.getfield 12, 3) := F_CM_join_0.2.2.2.2.2.2.1
theorem d_CM_join_15 : decode prog_1_method_35_code 15 = .ok (.iload_n 2, 1) := F_CM_join_0.2.2.2.2.2.2.2.1
theorem d_CM_join_16 : decode prog_1_method_35_code 16 = .ok (.invokevirtual 160, 3) := F_CM_join_0.2.2.2.2.2.2.2.2.1
theorem d_CM_join_19 : decode prog_1_method_35_code 19 = .ok (.ifCond .eq (10), 3) := F_CM_join_0.2.2.2.2.2.2.2.2.2.1
theorem d_CM_join_22 : decode prog_1_method_35_code 22 = .ok (.iload_n 3, 1) := F_CM_join_0.2.2.2.2.2.2.2.2.2.2.1
theorem d_CM_join_23 : decode prog_1_method_35_code 23 = .ok (.invokestatic 154, 3) := F_CM_join_0.2.2.2.2.2.2.2.2.2.2.2.1
theorem d_CM_join_26 : decode prog_1_method_35_code 26 = .ok (.ifCond .ne (7), 3) := F_CM_join_0.2.2.2.2.2.2.2.2.2.2.2.2.1
theorem d_CM_join_29 : decode prog_1_method_35_code 29 = .ok (.ldc2_w 270, 3) := F_CM_join_0.2.2.2.2.2.2.2.2.2.2.2.2.2.1
theorem d_CM_join_32 : decode prog_1_method_35_code 32 = .ok (.lreturn, 1) := F_CM_join_0.2.2.2.2.2.2.2.2.2.2.2.2.2.2.1
theorem d_CM_join_33 : decode prog_1_method_35_code 33 = .ok (.aload_n 0, 1) := F_CM_join_0.2.2.2.2.2.2.2.2.2.2.2.2.2.2.2.1
theorem d_CM_join_34 : decode prog_1_method_35_code 34 = .ok (.getfield 12, 3) := F_CM_join_0.2.2.2.2.2.2.2.2.2.2.2.2.2.2.2.2.1
theorem d_CM_join_37 : decode prog_1_method_35_code 37 = .ok (.getfield 163, 3) := F_CM_join_0.2.2.2.2.2.2.2.2.2.2.2.2.2.2.2.2.2.1
theorem d_CM_join_40 : decode prog_1_method_35_code 40 = .ok (.iload_n 1, 1) := F_CM_join_0.2.2.2.2.2.2.2.2.2.2.2.2.2.2.2.2.2.2.1
theorem d_CM_join_41 : decode prog_1_method_35_code 41 = .ok (.aaload, 1) := F_CM_join_0.2.2.2.2.2.2.2.2.2.2.2.2.2.2.2.2.2.2.2.1
theorem d_CM_join_42 : decode prog_1_method_35_code 42 = .ok (.aload_n 0, 1) := F_CM_join_0.2.2.2.2.2.2.2.2.2.2.2.2.2.2.2.2.2.2.2.2.1
theorem d_CM_join_43 : decode prog_1_method_35_code 43 = .ok (.getfield 12, 3) := F_CM_join_0.2.2.2.2.2.2.2.2.2.2.2.2.2.2.2.2.2.2.2.2.2.1
theorem d_CM_join_46 : decode prog_1_method_35_code 46 = .ok (.getfield 163, 3) := F_CM_join_0.2.2.2.2.2.2.2.2.2.2.2.2.2.2.2.2.2.2.2.2.2.2.1
theorem d_CM_join_49 : decode prog_1_method_35_code 49 = .ok (.iload_n 2, 1) := F_CM_join_0.2.2.2.2.2.2.2.2.2.2.2.2.2.2.2.2.2.2.2.2.2.2.2.1
theorem d_CM_join_50 : decode prog_1_method_35_code 50 = .ok (.aaload, 1) := F_CM_join_0.2.2.2.2.2.2.2.2.2.2.2.2.2.2.2.2.2.2.2.2.2.2.2.2.1
theorem d_CM_join_51 : decode prog_1_method_35_code 51 = .ok (.aload_n 0, 1) := F_CM_join_0.2.2.2.2.2.2.2.2.2.2.2.2.2.2.2.2.2.2.2.2.2.2.2.2.2.1
theorem d_CM_join_52 : decode prog_1_method_35_code 52 = .ok (.getfield 78, 3) := F_CM_join_0.2.2.2.2.2.2.2.2.2.2.2.2.2.2.2.2.2.2.2.2.2.2.2.2.2.2.1
theorem d_CM_join_55 : decode prog_1_method_35_code 55 = .ok (.invokestatic 324, 3) := F_CM_join_0.2.2.2.2.2.2.2.2.2.2.2.2.2.2.2.2.2.2.2.2.2.2.2.2.2.2.2.1
theorem d_CM_join_58 : decode prog_1_method_35_code 58 = .ok (.ifCond .ne (7), 3) := F_CM_join_0.2.2.2.2.2.2.2.2.2.2.2.2.2.2.2.2.2.2.2.2.2.2.2.2.2.2.2.2.1
theorem d_CM_join_61 : decode prog_1_method_35_code 61 = .ok (.ldc2_w 275, 3) := F_CM_join_0.2.2.2.2.2.2.2.2.2.2.2.2.2.2.2.2.2.2.2.2.2.2.2.2.2.2.2.2.2.1
theorem d_CM_join_64 : decode prog_1_method_35_code 64 = .ok (.lreturn, 1) := F_CM_join_0.2.2.2.2.2.2.2.2.2.2.2.2.2.2.2.2.2.2.2.2.2.2.2.2.2.2.2.2.2.2.1
theorem d_CM_join_65 : decode prog_1_method_35_code 65 = .ok (.aload_n 0, 1) := F_CM_join_0.2.2.2.2.2.2.2.2.2.2.2.2.2.2.2.2.2.2.2.2.2.2.2.2.2.2.2.2.2.2.2.1
theorem F_CM_join_66 : Jvm.Free.DS.Facts prog_1_method_35_code 66 [(.getfield 78, 3), (.iload_n 3, 1), (.laload, 1), (.lreturn, 1)] := Jvm.Free.DS.facts 66 _ (by decide +kernel) (by decide +kernel)
theorem d_CM_join_66 : decode prog_1_method_35_code 66 = .ok (.getfield 78, 3) := F_CM_join_66.1
theorem d_CM_join_69 : decode prog_1_method_35_code 69 = .ok (.iload_n 3, 1) := F_CM_join_66.2.1
theorem d_CM_join_70 : decode prog_1_method_35_code 70 = .ok (.laload, 1) := F_CM_join_66.2.2.1
theorem d_CM_join_71 : decode prog_1_method_35_code 71 = .ok (.lreturn, 1) := F_CM_join_66.2.2.2.1
theorem F_Rows_through_0 : Jvm.Free.DS.Facts prog_9_method_14_code 0 [(.aload_n 2, 1), (.iconst 0, 1), (.aload_n 0, 1), (.iconst 1, 1), (.laload, 1), (.aload_n 1, 1), (.iconst 2, 1), (.laload, 1), (.lmul, 1), (.aload_n 0, 1), (.iconst 2, 1), (.laload, 1), (.aload_n 1, 1), (.iconst 1, 1), (.laload, 1), (.lmul, 1), (.lsub, 1), (.lastore, 1), (.aload_n 2, 1), (.iconst 1, 1), (.aload_n 0, 1), (.iconst 2, 1), (.laload, 1), (.aload_n 1, 1), (.iconst 0, 1), (.laload, 1), (.lmul, 1), (.aload_n 0, 1), (.iconst 0, 1), (.laload, 1), (.aload_n 1, 1), (.iconst 2, 1)] := Jvm.Free.DS.facts 0 _ (by decide +kernel) (by decide +kernel)
theorem d_Rows_through_0 : decode prog_9_method_14_code 0 = .ok (.aload_n 2, 1) := F_Rows_through_0.1
theorem d_Rows_through_1 : decode prog_9_method_14_code 1 = .ok (.iconst 0, 1) := F_Rows_through_0.2.1
theorem d_Rows_through_2 : decode prog_9_method_14_code 2 = .ok (.aload_n 0, 1) := F_Rows_through_0.2.2.1
theorem d_Rows_through_3 : decode prog_9_method_14_code 3 = .ok (.iconst 1, 1) := F_Rows_through_0.2.2.2.1
theorem d_Rows_through_4 : decode prog_9_method_14_code 4 = .ok (.laload, 1) := F_Rows_through_0.2.2.2.2.1
theorem d_Rows_through_5 : decode prog_9_method_14_code 5 = .ok (.aload_n 1, 1) := F_Rows_through_0.2.2.2.2.2.1
theorem d_Rows_through_6 : decode prog_9_method_14_code 6 = .ok (.iconst 2, 1) := F_Rows_through_0.2.2.2.2.2.2.1
theorem d_Rows_through_7 : decode prog_9_method_14_code 7 = .ok (.laload, 1) := F_Rows_through_0.2.2.2.2.2.2.2.1
theorem d_Rows_through_8 : decode prog_9_method_14_code 8 = .ok (.lmul, 1) := F_Rows_through_0.2.2.2.2.2.2.2.2.1
theorem d_Rows_through_9 : decode prog_9_method_14_code 9 = .ok (.aload_n 0, 1) := F_Rows_through_0.2.2.2.2.2.2.2.2.2.1
theorem d_Rows_through_10 : decode prog_9_method_14_code 10 = .ok (.iconst 2, 1) := F_Rows_through_0.2.2.2.2.2.2.2.2.2.2.1
theorem d_Rows_through_11 : decode prog_9_method_14_code 11 = .ok (.laload, 1) := F_Rows_through_0.2.2.2.2.2.2.2.2.2.2.2.1
theorem d_Rows_through_12 : decode prog_9_method_14_code 12 = .ok (.aload_n 1, 1) := F_Rows_through_0.2.2.2.2.2.2.2.2.2.2.2.2.1
theorem d_Rows_through_13 : decode prog_9_method_14_code 13 = .ok (.iconst 1, 1) := F_Rows_through_0.2.2.2.2.2.2.2.2.2.2.2.2.2.1
theorem d_Rows_through_14 : decode prog_9_method_14_code 14 = .ok (.laload, 1) := F_Rows_through_0.2.2.2.2.2.2.2.2.2.2.2.2.2.2.1
theorem d_Rows_through_15 : decode prog_9_method_14_code 15 = .ok (.lmul, 1) := F_Rows_through_0.2.2.2.2.2.2.2.2.2.2.2.2.2.2.2.1
theorem d_Rows_through_16 : decode prog_9_method_14_code 16 = .ok (.lsub, 1) := F_Rows_through_0.2.2.2.2.2.2.2.2.2.2.2.2.2.2.2.2.1
theorem d_Rows_through_17 : decode prog_9_method_14_code 17 = .ok (.lastore, 1) := F_Rows_through_0.2.2.2.2.2.2.2.2.2.2.2.2.2.2.2.2.2.1
theorem d_Rows_through_18 : decode prog_9_method_14_code 18 = .ok (.aload_n 2, 1) := F_Rows_through_0.2.2.2.2.2.2.2.2.2.2.2.2.2.2.2.2.2.2.1
theorem d_Rows_through_19 : decode prog_9_method_14_code 19 = .ok (.iconst 1, 1) := F_Rows_through_0.2.2.2.2.2.2.2.2.2.2.2.2.2.2.2.2.2.2.2.1
theorem d_Rows_through_20 : decode prog_9_method_14_code 20 = .ok (.aload_n 0, 1) := F_Rows_through_0.2.2.2.2.2.2.2.2.2.2.2.2.2.2.2.2.2.2.2.2.1
theorem d_Rows_through_21 : decode prog_9_method_14_code 21 = .ok (.iconst 2, 1) := F_Rows_through_0.2.2.2.2.2.2.2.2.2.2.2.2.2.2.2.2.2.2.2.2.2.1
theorem d_Rows_through_22 : decode prog_9_method_14_code 22 = .ok (.laload, 1) := F_Rows_through_0.2.2.2.2.2.2.2.2.2.2.2.2.2.2.2.2.2.2.2.2.2.2.1
theorem d_Rows_through_23 : decode prog_9_method_14_code 23 = .ok (.aload_n 1, 1) := F_Rows_through_0.2.2.2.2.2.2.2.2.2.2.2.2.2.2.2.2.2.2.2.2.2.2.2.1
theorem d_Rows_through_24 : decode prog_9_method_14_code 24 = .ok (.iconst 0, 1) := F_Rows_through_0.2.2.2.2.2.2.2.2.2.2.2.2.2.2.2.2.2.2.2.2.2.2.2.2.1
theorem d_Rows_through_25 : decode prog_9_method_14_code 25 = .ok (.laload, 1) := F_Rows_through_0.2.2.2.2.2.2.2.2.2.2.2.2.2.2.2.2.2.2.2.2.2.2.2.2.2.1
theorem d_Rows_through_26 : decode prog_9_method_14_code 26 = .ok (.lmul, 1) := F_Rows_through_0.2.2.2.2.2.2.2.2.2.2.2.2.2.2.2.2.2.2.2.2.2.2.2.2.2.2.1
theorem d_Rows_through_27 : decode prog_9_method_14_code 27 = .ok (.aload_n 0, 1) := F_Rows_through_0.2.2.2.2.2.2.2.2.2.2.2.2.2.2.2.2.2.2.2.2.2.2.2.2.2.2.2.1
theorem d_Rows_through_28 : decode prog_9_method_14_code 28 = .ok (.iconst 0, 1) := F_Rows_through_0.2.2.2.2.2.2.2.2.2.2.2.2.2.2.2.2.2.2.2.2.2.2.2.2.2.2.2.2.1
theorem d_Rows_through_29 : decode prog_9_method_14_code 29 = .ok (.laload, 1) := F_Rows_through_0.2.2.2.2.2.2.2.2.2.2.2.2.2.2.2.2.2.2.2.2.2.2.2.2.2.2.2.2.2.1
theorem d_Rows_through_30 : decode prog_9_method_14_code 30 = .ok (.aload_n 1, 1) := F_Rows_through_0.2.2.2.2.2.2.2.2.2.2.2.2.2.2.2.2.2.2.2.2.2.2.2.2.2.2.2.2.2.2.1
theorem d_Rows_through_31 : decode prog_9_method_14_code 31 = .ok (.iconst 2, 1) := F_Rows_through_0.2.2.2.2.2.2.2.2.2.2.2.2.2.2.2.2.2.2.2.2.2.2.2.2.2.2.2.2.2.2.2.1
theorem F_Rows_through_32 : Jvm.Free.DS.Facts prog_9_method_14_code 32 [(.laload, 1), (.lmul, 1), (.lsub, 1), (.lastore, 1), (.aload_n 2, 1), (.iconst 2, 1), (.aload_n 0, 1), (.iconst 0, 1), (.laload, 1), (.aload_n 1, 1), (.iconst 1, 1), (.laload, 1), (.lmul, 1), (.aload_n 0, 1), (.iconst 1, 1), (.laload, 1), (.aload_n 1, 1), (.iconst 0, 1), (.laload, 1), (.lmul, 1), (.lsub, 1), (.lastore, 1), (.aload_n 2, 1), (.invokestatic 44, 3), (.aload_n 2, 1), (.iconst 0, 1), (.laload, 1), (.lconst 0, 1), (.lcmp, 1), (.ifCond .ne (19), 3), (.aload_n 2, 1), (.iconst 1, 1)] := Jvm.Free.DS.facts 32 _ (by decide +kernel) (by decide +kernel)
theorem d_Rows_through_32 : decode prog_9_method_14_code 32 = .ok (.laload, 1) := F_Rows_through_32.1
theorem d_Rows_through_33 : decode prog_9_method_14_code 33 = .ok (.lmul, 1) := F_Rows_through_32.2.1
theorem d_Rows_through_34 : decode prog_9_method_14_code 34 = .ok (.lsub, 1) := F_Rows_through_32.2.2.1
theorem d_Rows_through_35 : decode prog_9_method_14_code 35 = .ok (.lastore, 1) := F_Rows_through_32.2.2.2.1
theorem d_Rows_through_36 : decode prog_9_method_14_code 36 = .ok (.aload_n 2, 1) := F_Rows_through_32.2.2.2.2.1
theorem d_Rows_through_37 : decode prog_9_method_14_code 37 = .ok (.iconst 2, 1) := F_Rows_through_32.2.2.2.2.2.1
theorem d_Rows_through_38 : decode prog_9_method_14_code 38 = .ok (.aload_n 0, 1) := F_Rows_through_32.2.2.2.2.2.2.1
theorem d_Rows_through_39 : decode prog_9_method_14_code 39 = .ok (.iconst 0, 1) := F_Rows_through_32.2.2.2.2.2.2.2.1
theorem d_Rows_through_40 : decode prog_9_method_14_code 40 = .ok (.laload, 1) := F_Rows_through_32.2.2.2.2.2.2.2.2.1
theorem d_Rows_through_41 : decode prog_9_method_14_code 41 = .ok (.aload_n 1, 1) := F_Rows_through_32.2.2.2.2.2.2.2.2.2.1
theorem d_Rows_through_42 : decode prog_9_method_14_code 42 = .ok (.iconst 1, 1) := F_Rows_through_32.2.2.2.2.2.2.2.2.2.2.1
theorem d_Rows_through_43 : decode prog_9_method_14_code 43 = .ok (.laload, 1) := F_Rows_through_32.2.2.2.2.2.2.2.2.2.2.2.1
theorem d_Rows_through_44 : decode prog_9_method_14_code 44 = .ok (.lmul, 1) := F_Rows_through_32.2.2.2.2.2.2.2.2.2.2.2.2.1
theorem d_Rows_through_45 : decode prog_9_method_14_code 45 = .ok (.aload_n 0, 1) := F_Rows_through_32.2.2.2.2.2.2.2.2.2.2.2.2.2.1
theorem d_Rows_through_46 : decode prog_9_method_14_code 46 = .ok (.iconst 1, 1) := F_Rows_through_32.2.2.2.2.2.2.2.2.2.2.2.2.2.2.1
theorem d_Rows_through_47 : decode prog_9_method_14_code 47 = .ok (.laload, 1) := F_Rows_through_32.2.2.2.2.2.2.2.2.2.2.2.2.2.2.2.1
theorem d_Rows_through_48 : decode prog_9_method_14_code 48 = .ok (.aload_n 1, 1) := F_Rows_through_32.2.2.2.2.2.2.2.2.2.2.2.2.2.2.2.2.1
theorem d_Rows_through_49 : decode prog_9_method_14_code 49 = .ok (.iconst 0, 1) := F_Rows_through_32.2.2.2.2.2.2.2.2.2.2.2.2.2.2.2.2.2.1
theorem d_Rows_through_50 : decode prog_9_method_14_code 50 = .ok (.laload, 1) := F_Rows_through_32.2.2.2.2.2.2.2.2.2.2.2.2.2.2.2.2.2.2.1
theorem d_Rows_through_51 : decode prog_9_method_14_code 51 = .ok (.lmul, 1) := F_Rows_through_32.2.2.2.2.2.2.2.2.2.2.2.2.2.2.2.2.2.2.2.1
theorem d_Rows_through_52 : decode prog_9_method_14_code 52 = .ok (.lsub, 1) := F_Rows_through_32.2.2.2.2.2.2.2.2.2.2.2.2.2.2.2.2.2.2.2.2.1
theorem d_Rows_through_53 : decode prog_9_method_14_code 53 = .ok (.lastore, 1) := F_Rows_through_32.2.2.2.2.2.2.2.2.2.2.2.2.2.2.2.2.2.2.2.2.2.1
theorem d_Rows_through_54 : decode prog_9_method_14_code 54 = .ok (.aload_n 2, 1) := F_Rows_through_32.2.2.2.2.2.2.2.2.2.2.2.2.2.2.2.2.2.2.2.2.2.2.1
theorem d_Rows_through_55 : decode prog_9_method_14_code 55 = .ok (.invokestatic 44, 3) := F_Rows_through_32.2.2.2.2.2.2.2.2.2.2.2.2.2.2.2.2.2.2.2.2.2.2.2.1
theorem d_Rows_through_58 : decode prog_9_method_14_code 58 = .ok (.aload_n 2, 1) := F_Rows_through_32.2.2.2.2.2.2.2.2.2.2.2.2.2.2.2.2.2.2.2.2.2.2.2.2.1
theorem d_Rows_through_59 : decode prog_9_method_14_code 59 = .ok (.iconst 0, 1) := F_Rows_through_32.2.2.2.2.2.2.2.2.2.2.2.2.2.2.2.2.2.2.2.2.2.2.2.2.2.1
theorem d_Rows_through_60 : decode prog_9_method_14_code 60 = .ok (.laload, 1) := F_Rows_through_32.2.2.2.2.2.2.2.2.2.2.2.2.2.2.2.2.2.2.2.2.2.2.2.2.2.2.1
theorem d_Rows_through_61 : decode prog_9_method_14_code 61 = .ok (.lconst 0, 1) := F_Rows_through_32.2.2.2.2.2.2.2.2.2.2.2.2.2.2.2.2.2.2.2.2.2.2.2.2.2.2.2.1
theorem d_Rows_through_62 : decode prog_9_method_14_code 62 = .ok (.lcmp, 1) := F_Rows_through_32.2.2.2.2.2.2.2.2.2.2.2.2.2.2.2.2.2.2.2.2.2.2.2.2.2.2.2.2.1
theorem d_Rows_through_63 : decode prog_9_method_14_code 63 = .ok (.ifCond .ne (19), 3) := F_Rows_through_32.2.2.2.2.2.2.2.2.2.2.2.2.2.2.2.2.2.2.2.2.2.2.2.2.2.2.2.2.2.1
theorem d_Rows_through_66 : decode prog_9_method_14_code 66 = .ok (.aload_n 2, 1) := F_Rows_through_32.2.2.2.2.2.2.2.2.2.2.2.2.2.2.2.2.2.2.2.2.2.2.2.2.2.2.2.2.2.2.1
theorem d_Rows_through_67 : decode prog_9_method_14_code 67 = .ok (.iconst 1, 1) := F_Rows_through_32.2.2.2.2.2.2.2.2.2.2.2.2.2.2.2.2.2.2.2.2.2.2.2.2.2.2.2.2.2.2.2.1
theorem F_Rows_through_68 : Jvm.Free.DS.Facts prog_9_method_14_code 68 [(.laload, 1), (.lconst 0, 1), (.lcmp, 1), (.ifCond .ne (11), 3), (.aload_n 2, 1), (.iconst 2, 1), (.laload, 1), (.lconst 0, 1), (.lcmp, 1), (.ifCond .eq (7), 3), (.iconst 1, 1), (.goto (4), 3), (.iconst 0, 1), (.ireturn, 1)] := Jvm.Free.DS.facts 68 _ (by decide +kernel) (by decide +kernel)
theorem d_Rows_through_68 : decode prog_9_method_14_code 68 = .ok (.laload, 1) := F_Rows_through_68.1
theorem d_Rows_through_69 : decode prog_9_method_14_code 69 = .ok (.lconst 0, 1) := F_Rows_through_68.2.1
theorem d_Rows_through_70 : decode prog_9_method_14_code 70 = .ok (.lcmp, 1) := F_Rows_through_68.2.2.1
theorem d_Rows_through_71 : decode prog_9_method_14_code 71 = .ok (.ifCond .ne (11), 3) := F_Rows_through_68.2.2.2.1
theorem d_Rows_through_74 : decode prog_9_method_14_code 74 = .ok (.aload_n 2, 1) := F_Rows_through_68.2.2.2.2.1
theorem d_Rows_through_75 : decode prog_9_method_14_code 75 = .ok (.iconst 2, 1) := F_Rows_through_68.2.2.2.2.2.1
theorem d_Rows_through_76 : decode prog_9_method_14_code 76 = .ok (.laload, 1) := F_Rows_through_68.2.2.2.2.2.2.1
theorem d_Rows_through_77 : decode prog_9_method_14_code 77 = .ok (.lconst 0, 1) := F_Rows_through_68.2.2.2.2.2.2.2.1
theorem d_Rows_through_78 : decode prog_9_method_14_code 78 = .ok (.lcmp, 1) := F_Rows_through_68.2.2.2.2.2.2.2.2.1
theorem d_Rows_through_79 : decode prog_9_method_14_code 79 = .ok (.ifCond .eq (7), 3) := F_Rows_through_68.2.2.2.2.2.2.2.2.2.1
theorem d_Rows_through_82 : decode prog_9_method_14_code 82 = .ok (.iconst 1, 1) := F_Rows_through_68.2.2.2.2.2.2.2.2.2.2.1
theorem d_Rows_through_83 : decode prog_9_method_14_code 83 = .ok (.goto (4), 3) := F_Rows_through_68.2.2.2.2.2.2.2.2.2.2.2.1
theorem d_Rows_through_86 : decode prog_9_method_14_code 86 = .ok (.iconst 0, 1) := F_Rows_through_68.2.2.2.2.2.2.2.2.2.2.2.2.1
theorem d_Rows_through_87 : decode prog_9_method_14_code 87 = .ok (.ireturn, 1) := F_Rows_through_68.2.2.2.2.2.2.2.2.2.2.2.2.2.1
theorem F_CM_inLine_0 : Jvm.Free.DS.Facts prog_1_method_36_code 0 [(.aload_n 0, 1), (.getfield 12, 3), (.iload_n 1, 1), (.invokevirtual 160, 3), (.ifCond .eq (25), 3), (.aload_n 0, 1), (.getfield 12, 3), (.iload_n 2, 1), (.invokevirtual 160, 3), (.ifCond .eq (14), 3), (.aload_n 0, 1), (.getfield 12, 3), (.iload_n 3, 1), (.invokevirtual 160, 3), (.ifCond .ne (5), 3), (.iconst (-1), 1), (.ireturn, 1), (.aload_n 0, 1), (.iload_n 1, 1), (.iload_n 2, 1), (.iload_n 3, 1), (.invokevirtual 327, 3), (.invokestatic 290, 3), (.ireturn, 1)] := Jvm.Free.DS.facts 0 _ (by decide +kernel) (by decide +kernel)
theorem d_CM_inLine_0 : decode prog_1_method_36_code 0 = .ok (.aload_n 0, 1) := F_CM_inLine_0.1
theorem d_CM_inLine_1 : decode prog_1_method_36_code 1 = .ok (.getfield 12, 3) := F_CM_inLine_0.2.1
theorem d_CM_inLine_4 : decode prog_1_method_36_code 4 = .ok (.iload_n 1, 1) := F_CM_inLine_0.2.2.1
theorem d_CM_inLine_5 : decode prog_1_method_36_code 5 = .ok (.invokevirtual 160, 3) := F_CM_inLine_0.2.2.2.1
theorem d_CM_inLine_8 : decode prog_1_method_36_code 8 = .ok (.ifCond .eq (25), 3) := F_CM_inLine_0.2.2.2.2.1
theorem d_CM_inLine_11 : decode prog_1_method_36_code 11 = .ok (.aload_n 0, 1) := F_CM_inLine_0.2.2.2.2.2.1
theorem d_CM_inLine_12 : decode prog_1_method_36_code 12 = .ok (.getfield 12, 3) := F_CM_inLine_0.2.2.2.2.2.2.1
theorem d_CM_inLine_15 : decode prog_1_method_36_code 15 = .ok (.iload_n 2, 1) := F_CM_inLine_0.2.2.2.2.2.2.2.1
theorem d_CM_inLine_16 : decode prog_1_method_36_code 16 = .ok (.invokevirtual 160, 3) := F_CM_inLine_0.2.2.2.2.2.2.2.2.1
theorem d_CM_inLine_19 : decode prog_1_method_36_code 19 = .ok (.ifCond .eq (14), 3) := F_CM_inLine_0.2.2.2.2.2.2.2.2.2.1
theorem d_CM_inLine_22 : decode prog_1_method_36_code 22 = .ok (.aload_n 0, 1) := F_CM_inLine_0.2.2.2.2.2.2.2.2.2.2.1
theorem d_CM_inLine_23 : decode prog_1_method_36_code 23 = .ok (.getfield 12, 3) := F_CM_inLine_0.2.2.2.2.2.2.2.2.2.2.2.1
theorem d_CM_inLine_26 : decode prog_1_method_36_code 26 = .ok (.iload_n 3, 1) := F_CM_inLine_0.2.2.2.2.2.2.2.2.2.2.2.2.1
theorem d_CM_inLine_27 : decode prog_1_method_36_code 27 = .ok (.invokevirtual 160, 3) := F_CM_inLine_0.2.2.2.2.2.2.2.2.2.2.2.2.2.1
theorem d_CM_inLine_30 : decode prog_1_method_36_code 30 = .ok (.ifCond .ne (5), 3) := F_CM_inLine_0.2.2.2.2.2.2.2.2.2.2.2.2.2.2.1
theorem d_CM_inLine_33 : decode prog_1_method_36_code 33 = .ok (.iconst (-1), 1) := F_CM_inLine_0.2.2.2.2.2.2.2.2.2.2.2.2.2.2.2.1
theorem d_CM_inLine_34 : decode prog_1_method_36_code 34 = .ok (.ireturn, 1) := F_CM_inLine_0.2.2.2.2.2.2.2.2.2.2.2.2.2.2.2.2.1
theorem d_CM_inLine_35 : decode prog_1_method_36_code 35 = .ok (.aload_n 0, 1) := F_CM_inLine_0.2.2.2.2.2.2.2.2.2.2.2.2.2.2.2.2.2.1
theorem d_CM_inLine_36 : decode prog_1_method_36_code 36 = .ok (.iload_n 1, 1) := F_CM_inLine_0.2.2.2.2.2.2.2.2.2.2.2.2.2.2.2.2.2.2.1
theorem d_CM_inLine_37 : decode prog_1_method_36_code 37 = .ok (.iload_n 2, 1) := F_CM_inLine_0.2.2.2.2.2.2.2.2.2.2.2.2.2.2.2.2.2.2.2.1
theorem d_CM_inLine_38 : decode prog_1_method_36_code 38 = .ok (.iload_n 3, 1) := F_CM_inLine_0.2.2.2.2.2.2.2.2.2.2.2.2.2.2.2.2.2.2.2.2.1
theorem d_CM_inLine_39 : decode prog_1_method_36_code 39 = .ok (.invokevirtual 327, 3) := F_CM_inLine_0.2.2.2.2.2.2.2.2.2.2.2.2.2.2.2.2.2.2.2.2.2.1
theorem d_CM_inLine_42 : decode prog_1_method_36_code 42 = .ok (.invokestatic 290, 3) := F_CM_inLine_0.2.2.2.2.2.2.2.2.2.2.2.2.2.2.2.2.2.2.2.2.2.2.1
theorem d_CM_inLine_45 : decode prog_1_method_36_code 45 = .ok (.ireturn, 1) := F_CM_inLine_0.2.2.2.2.2.2.2.2.2.2.2.2.2.2.2.2.2.2.2.2.2.2.2.1
theorem F_CM_areInLine_0 : Jvm.Free.DS.Facts prog_1_method_91_code 0 [(.aload_n 0, 1), (.getfield 12, 3), (.getfield 163, 3), (.iload_n 1, 1), (.aaload, 1), (.aload_n 0, 1), (.getfield 12, 3), (.getfield 163, 3), (.iload_n 2, 1), (.aaload, 1), (.aload_n 0, 1), (.getfield 12, 3), (.getfield 163, 3), (.iload_n 3, 1), (.aaload, 1), (.invokestatic 401, 3), (.lconst 0, 1), (.lcmp, 1), (.ifCond .ne (7), 3), (.iconst 1, 1), (.goto (4), 3), (.iconst 0, 1), (.ireturn, 1)] := Jvm.Free.DS.facts 0 _ (by decide +kernel) (by decide +kernel)
theorem d_CM_areInLine_0 : decode prog_1_method_91_code 0 = .ok (.aload_n 0, 1) := F_CM_areInLine_0.1
theorem d_CM_areInLine_1 : decode prog_1_method_91_code 1 = .ok (.getfield 12, 3) := F_CM_areInLine_0.2.1
theorem d_CM_areInLine_4 : decode prog_1_method_91_code 4 = .ok (.getfield 163, 3) := F_CM_areInLine_0.2.2.1
theorem d_CM_areInLine_7 : decode prog_1_method_91_code 7 = .ok (.iload_n 1, 1) := F_CM_areInLine_0.2.2.2.1
theorem d_CM_areInLine_8 : decode prog_1_method_91_code 8 = .ok (.aaload, 1) := F_CM_areInLine_0.2.2.2.2.1
theorem d_CM_areInLine_9 : decode prog_1_method_91_code 9 = .ok (.aload_n 0, 1) := F_CM_areInLine_0.2.2.2.2.2.1
theorem d_CM_areInLine_10 : decode prog_1_method_91_code 10 = .ok (.getfield 12, 3) := F_CM_areInLine_0.2.2.2.2.2.2.1
theorem d_CM_areInLine_13 : decode prog_1_method_91_code 13 = .ok (.getfield 163, 3) := F_CM_areInLine_0.2.2.2.2.2.2.2.1
theorem d_CM_areInLine_16 : decode prog_1_method_91_code 16 = .ok (.iload_n 2, 1) := F_CM_areInLine_0.2.2.2.2.2.2.2.2.1
theorem d_CM_areInLine_17 : decode prog_1_method_91_code 17 = .ok (.aaload, 1) := F_CM_areInLine_0.2.2.2.2.2.2.2.2.2.1
theorem d_CM_areInLine_18 : decode prog_1_method_91_code 18 = .ok (.aload_n 0, 1) := F_CM_areInLine_0.2.2.2.2.2.2.2.2.2.2.1
theorem d_CM_areInLine_19 : decode prog_1_method_91_code 19 = .ok (.getfield 12, 3) := F_CM_areInLine_0.2.2.2.2.2.2.2.2.2.2.2.1
theorem d_CM_areInLine_22 : decode prog_1_method_91_code 22 = .ok (.getfield 163, 3) := F_CM_areInLine_0.2.2.2.2.2.2.2.2.2.2.2.2.1
theorem d_CM_areInLine_25 : decode prog_1_method_91_code 25 = .ok (.iload_n 3, 1) := F_CM_areInLine_0.2.2.2.2.2.2.2.2.2.2.2.2.2.1
theorem d_CM_areInLine_26 : decode prog_1_method_91_code 26 = .ok (.aaload, 1) := F_CM_areInLine_0.2.2.2.2.2.2.2.2.2.2.2.2.2.2.1
theorem d_CM_areInLine_27 : decode prog_1_method_91_code 27 = .ok (.invokestatic 401, 3) := F_CM_areInLine_0.2.2.2.2.2.2.2.2.2.2.2.2.2.2.2.1
theorem d_CM_areInLine_30 : decode prog_1_method_91_code 30 = .ok (.lconst 0, 1) := F_CM_areInLine_0.2.2.2.2.2.2.2.2.2.2.2.2.2.2.2.2.1
theorem d_CM_areInLine_31 : decode prog_1_method_91_code 31 = .ok (.lcmp, 1) := F_CM_areInLine_0.2.2.2.2.2.2.2.2.2.2.2.2.2.2.2.2.2.1
theorem d_CM_areInLine_32 : decode prog_1_method_91_code 32 = .ok (.ifCond .ne (7), 3) := F_CM_areInLine_0.2.2.2.2.2.2.2.2.2.2.2.2.2.2.2.2.2.2.1
theorem d_CM_areInLine_35 : decode prog_1_method_91_code 35 = .ok (.iconst 1, 1) := F_CM_areInLine_0.2.2.2.2.2.2.2.2.2.2.2.2.2.2.2.2.2.2.2.1
theorem d_CM_areInLine_36 : decode prog_1_method_91_code 36 = .ok (.goto (4), 3) := F_CM_areInLine_0.2.2.2.2.2.2.2.2.2.2.2.2.2.2.2.2.2.2.2.2.1
theorem d_CM_areInLine_39 : decode prog_1_method_91_code 39 = .ok (.iconst 0, 1) := F_CM_areInLine_0.2.2.2.2.2.2.2.2.2.2.2.2.2.2.2.2.2.2.2.2.2.1
theorem d_CM_areInLine_40 : decode prog_1_method_91_code 40 = .ok (.ireturn, 1) := F_CM_areInLine_0.2.2.2.2.2.2.2.2.2.2.2.2.2.2.2.2.2.2.2.2.2.2.1
theorem F_CM_meet_0 : Jvm.Free.DS.Facts prog_1_method_37_code 0 [(.aload_n 0, 1), (.iload_n 1, 1), (.iload_n 2, 1), (.iload_n 3, 1), (.iload 4, 2), (.invokevirtual 330, 3), (.ifCond .eq (11), 3), (.iload 5, 2), (.invokestatic 154, 3), (.ifCond .ne (7), 3), (.ldc2_w 270, 3), (.lreturn, 1), (.aload_n 0, 1), (.getfield 12, 3), (.getfield 163, 3), (.iload_n 1, 1), (.aaload, 1), (.aload_n 0, 1), (.getfield 12, 3), (.getfield 163, 3), (.iload_n 2, 1), (.aaload, 1), (.aload_n 0, 1), (.getfield 84, 3), (.invokestatic 324, 3), (.ifCond .eq (54), 3), (.aload_n 0, 1), (.getfield 12, 3), (.getfield 163, 3), (.iload_n 3, 1), (.aaload, 1), (.aload_n 0, 1)] := Jvm.Free.DS.facts 0 _ (by decide +kernel) (by decide +kernel)
theorem d_CM_meet_0 : decode prog_1_method_37_code 0 = .ok (.aload_n 0, 1) := F_CM_meet_0.1
theorem d_CM_meet_1 : decode prog_1_method_37_code 1 = .ok (.iload_n 1, 1) := F_CM_meet_0.2.1
theorem d_CM_meet_2 : decode prog_1_method_37_code 2 = .ok (.iload_n 2, 1) := F_CM_meet_0.2.2.1
theorem d_CM_meet_3 : decode prog_1_method_37_code 3 = .ok (.iload_n 3, 1) := F_CM_meet_0.2.2.2.1
theorem d_CM_meet_4 : decode prog_1_method_37_code 4 = .ok (.iload 4, 2) := F_CM_meet_0.2.2.2.2.1
theorem d_CM_meet_6 : decode prog_1_method_37_code 6 = .ok (.invokevirtual 330, 3) := F_CM_meet_0.2.2.2.2.2.1
theorem d_CM_meet_9 : decode prog_1_method_37_code 9 = .ok (.ifCond .eq (11), 3) := F_CM_meet_0.2.2.2.2.2.2.1
theorem d_CM_meet_12 : decode prog_1_method_37_code 12 = .ok (.iload 5, 2) := F_CM_meet_0.2.2.2.2.2.2.2.1
theorem d_CM_meet_14 : decode prog_1_method_37_code 14 = .ok (.invokestatic 154, 3) := F_CM_meet_0.2.2.2.2.2.2.2.2.1
theorem d_CM_meet_17 : decode prog_1_method_37_code 17 = .ok (.ifCond .ne (7), 3) := F_CM_meet_0.2.2.2.2.2.2.2.2.2.1
theorem d_CM_meet_20 : decode prog_1_method_37_code 20 = .ok (.ldc2_w 270, 3) := F_CM_meet_0.2.2.2.2.2.2.2.2.2.2.1
theorem d_CM_meet_23 : decode prog_1_method_37_code 23 = .ok (.lreturn, 1) := F_CM_meet_0.2.2.2.2.2.2.2.2.2.2.2.1
theorem d_CM_meet_24 : decode prog_1_method_37_code 24 = .ok (.aload_n 0, 1) := F_CM_meet_0.2.2.2.2.2.2.2.2.2.2.2.2.1
theorem d_CM_meet_25 : decode prog_1_method_37_code 25 = .ok (.getfield 12, 3) := F_CM_meet_0.2.2.2.2.2.2.2.2.2.2.2.2.2.1
theorem d_CM_meet_28 : decode prog_1_method_37_code 28 = .ok (.getfield 163, 3) := F_CM_meet_0.2.2.2.2.2.2.2.2.2.2.2.2.2.2.1
theorem d_CM_meet_31 : decode prog_1_method_37_code 31 = .ok (.iload_n 1, 1) := F_CM_meet_0.2.2.2.2.2.2.2.2.2.2.2.2.2.2.2.1
theorem d_CM_meet_32 : decode prog_1_method_37_code 32 = .ok (.aaload, 1) := F_CM_meet_0.2.2.2.2.2.2.2.2.2.2.2.2.2.2.2.2.1
theorem d_CM_meet_33 : decode prog_1_method_37_code 33 = .ok (.aload_n 0, 1) := F_CM_meet_0.2.2.2.2.2.2.2.2.2.2.2.2.2.2.2.2.2.1
theorem d_CM_meet_34 : decode prog_1_method_37_code 34 = .ok (.getfield 12, 3) := F_CM_meet_0.2.2.2.2.2.2.2.2.2.2.2.2.2.2.2.2.2.2.1
theorem d_CM_meet_37 : decode prog_1_method_37_code 37 = .ok (.getfield 163, 3) := F_CM_meet_0.2.2.2.2.2.2.2.2.2.2.2.2.2.2.2.2.2.2.2.1
theorem d_CM_meet_40 : decode prog_1_method_37_code 40 = .ok (.iload_n 2, 1) := F_CM_meet_0.2.2.2.2.2.2.2.2.2.2.2.2.2.2.2.2.2.2.2.2.1
theorem d_CM_meet_41 : decode prog_1_method_37_code 41 = .ok (.aaload, 1) := F_CM_meet_0.2.2.2.2.2.2.2.2.2.2.2.2.2.2.2.2.2.2.2.2.2.1
theorem d_CM_meet_42 : decode prog_1_method_37_code 42 = .ok (.aload_n 0, 1) := F_CM_meet_0.2.2.2.2.2.2.2.2.2.2.2.2.2.2.2.2.2.2.2.2.2.2.1
theorem d_CM_meet_43 : decode prog_1_method_37_code 43 = .ok (.getfield 84, 3) := F_CM_meet_0.2.2.2.2.2.2.2.2.2.2.2.2.2.2.2.2.2.2.2.2.2.2.2.1
theorem d_CM_meet_46 : decode prog_1_method_37_code 46 = .ok (.invokestatic 324, 3) := F_CM_meet_0.2.2.2.2.2.2.2.2.2.2.2.2.2.2.2.2.2.2.2.2.2.2.2.2.1
theorem d_CM_meet_49 : decode prog_1_method_37_code 49 = .ok (.ifCond .eq (54), 3) := F_CM_meet_0.2.2.2.2.2.2.2.2.2.2.2.2.2.2.2.2.2.2.2.2.2.2.2.2.2.1
theorem d_CM_meet_52 : decode prog_1_method_37_code 52 = .ok (.aload_n 0, 1) := F_CM_meet_0.2.2.2.2.2.2.2.2.2.2.2.2.2.2.2.2.2.2.2.2.2.2.2.2.2.2.1
theorem d_CM_meet_53 : decode prog_1_method_37_code 53 = .ok (.getfield 12, 3) := F_CM_meet_0.2.2.2.2.2.2.2.2.2.2.2.2.2.2.2.2.2.2.2.2.2.2.2.2.2.2.2.1
theorem d_CM_meet_56 : decode prog_1_method_37_code 56 = .ok (.getfield 163, 3) := F_CM_meet_0.2.2.2.2.2.2.2.2.2.2.2.2.2.2.2.2.2.2.2.2.2.2.2.2.2.2.2.2.1
theorem d_CM_meet_59 : decode prog_1_method_37_code 59 = .ok (.iload_n 3, 1) := F_CM_meet_0.2.2.2.2.2.2.2.2.2.2.2.2.2.2.2.2.2.2.2.2.2.2.2.2.2.2.2.2.2.1
theorem d_CM_meet_60 : decode prog_1_method_37_code 60 = .ok (.aaload, 1) := F_CM_meet_0.2.2.2.2.2.2.2.2.2.2.2.2.2.2.2.2.2.2.2.2.2.2.2.2.2.2.2.2.2.2.1
theorem d_CM_meet_61 : decode prog_1_method_37_code 61 = .ok (.aload_n 0, 1) := F_CM_meet_0.2.2.2.2.2.2.2.2.2.2.2.2.2.2.2.2.2.2.2.2.2.2.2.2.2.2.2.2.2.2.2.1
theorem F_CM_meet_62 : Jvm.Free.DS.Facts prog_1_method_37_code 62 [(.getfield 12, 3), (.getfield 163, 3), (.iload 4, 2), (.aaload, 1), (.aload_n 0, 1), (.getfield 87, 3), (.invokestatic 324, 3), (.ifCond .eq (25), 3), (.aload_n 0, 1), (.getfield 84, 3), (.aload_n 0, 1), (.getfield 87, 3), (.aload_n 0, 1), (.getfield 78, 3), (.invokestatic 324, 3), (.ifCond .eq (7), 3), (.iconst 1, 1), (.goto (4), 3), (.iconst 0, 1), (.istore 6, 2), (.iload 6, 2), (.ifCond .eq (13), 3), (.aload_n 0, 1), (.getfield 78, 3), (.iload 5, 2), (.laload, 1), (.goto (6), 3), (.ldc2_w 275, 3), (.lreturn, 1)] := Jvm.Free.DS.facts 62 _ (by decide +kernel) (by decide +kernel)
theorem d_CM_meet_62 : decode prog_1_method_37_code 62 = .ok (.getfield 12, 3) := F_CM_meet_62.1
theorem d_CM_meet_65 : decode prog_1_method_37_code 65 = .ok (.getfield 163, 3) := F_CM_meet_62.2.1
theorem d_CM_meet_68 : decode prog_1_method_37_code 68 = .ok (.iload 4, 2) := F_CM_meet_62.2.2.1
theorem d_CM_meet_70 : decode prog_1_method_37_code 70 = .ok (.aaload, 1) := F_CM_meet_62.2.2.2.1
theorem d_CM_meet_71 : decode prog_1_method_37_code 71 = .ok (.aload_n 0, 1) := F_CM_meet_62.2.2.2.2.1
theorem d_CM_meet_72 : decode prog_1_method_37_code 72 = .ok (.getfield 87, 3) := F_CM_meet_62.2.2.2.2.2.1
theorem d_CM_meet_75 : decode prog_1_method_37_code 75 = .ok (.invokestatic 324, 3) := F_CM_meet_62.2.2.2.2.2.2.1
theorem d_CM_meet_78 : decode prog_1_method_37_code 78 = .ok (.ifCond .eq (25), 3) := F_CM_meet_62.2.2.2.2.2.2.2.1
theorem d_CM_meet_81 : decode prog_1_method_37_code 81 = .ok (.aload_n 0, 1) := F_CM_meet_62.2.2.2.2.2.2.2.2.1
theorem d_CM_meet_82 : decode prog_1_method_37_code 82 = .ok (.getfield 84, 3) := F_CM_meet_62.2.2.2.2.2.2.2.2.2.1
theorem d_CM_meet_85 : decode prog_1_method_37_code 85 = .ok (.aload_n 0, 1) := F_CM_meet_62.2.2.2.2.2.2.2.2.2.2.1
theorem d_CM_meet_86 : decode prog_1_method_37_code 86 = .ok (.getfield 87, 3) := F_CM_meet_62.2.2.2.2.2.2.2.2.2.2.2.1
theorem d_CM_meet_89 : decode prog_1_method_37_code 89 = .ok (.aload_n 0, 1) := F_CM_meet_62.2.2.2.2.2.2.2.2.2.2.2.2.1
theorem d_CM_meet_90 : decode prog_1_method_37_code 90 = .ok (.getfield 78, 3) := F_CM_meet_62.2.2.2.2.2.2.2.2.2.2.2.2.2.1
theorem d_CM_meet_93 : decode prog_1_method_37_code 93 = .ok (.invokestatic 324, 3) := F_CM_meet_62.2.2.2.2.2.2.2.2.2.2.2.2.2.2.1
theorem d_CM_meet_96 : decode prog_1_method_37_code 96 = .ok (.ifCond .eq (7), 3) := F_CM_meet_62.2.2.2.2.2.2.2.2.2.2.2.2.2.2.2.1
theorem d_CM_meet_99 : decode prog_1_method_37_code 99 = .ok (.iconst 1, 1) := F_CM_meet_62.2.2.2.2.2.2.2.2.2.2.2.2.2.2.2.2.1
theorem d_CM_meet_100 : decode prog_1_method_37_code 100 = .ok (.goto (4), 3) := F_CM_meet_62.2.2.2.2.2.2.2.2.2.2.2.2.2.2.2.2.2.1
theorem d_CM_meet_103 : decode prog_1_method_37_code 103 = .ok (.iconst 0, 1) := F_CM_meet_62.2.2.2.2.2.2.2.2.2.2.2.2.2.2.2.2.2.2.1
theorem d_CM_meet_104 : decode prog_1_method_37_code 104 = .ok (.istore 6, 2) := F_CM_meet_62.2.2.2.2.2.2.2.2.2.2.2.2.2.2.2.2.2.2.2.1
theorem d_CM_meet_106 : decode prog_1_method_37_code 106 = .ok (.iload 6, 2) := F_CM_meet_62.2.2.2.2.2.2.2.2.2.2.2.2.2.2.2.2.2.2.2.2.1
theorem d_CM_meet_108 : decode prog_1_method_37_code 108 = .ok (.ifCond .eq (13), 3) := F_CM_meet_62.2.2.2.2.2.2.2.2.2.2.2.2.2.2.2.2.2.2.2.2.2.1
theorem d_CM_meet_111 : decode prog_1_method_37_code 111 = .ok (.aload_n 0, 1) := F_CM_meet_62.2.2.2.2.2.2.2.2.2.2.2.2.2.2.2.2.2.2.2.2.2.2.1
theorem d_CM_meet_112 : decode prog_1_method_37_code 112 = .ok (.getfield 78, 3) := F_CM_meet_62.2.2.2.2.2.2.2.2.2.2.2.2.2.2.2.2.2.2.2.2.2.2.2.1
theorem d_CM_meet_115 : decode prog_1_method_37_code 115 = .ok (.iload 5, 2) := F_CM_meet_62.2.2.2.2.2.2.2.2.2.2.2.2.2.2.2.2.2.2.2.2.2.2.2.2.1
theorem d_CM_meet_117 : decode prog_1_method_37_code 117 = .ok (.laload, 1) := F_CM_meet_62.2.2.2.2.2.2.2.2.2.2.2.2.2.2.2.2.2.2.2.2.2.2.2.2.2.1
theorem d_CM_meet_118 : decode prog_1_method_37_code 118 = .ok (.goto (6), 3) := F_CM_meet_62.2.2.2.2.2.2.2.2.2.2.2.2.2.2.2.2.2.2.2.2.2.2.2.2.2.2.1
theorem d_CM_meet_121 : decode prog_1_method_37_code 121 = .ok (.ldc2_w 275, 3) := F_CM_meet_62.2.2.2.2.2.2.2.2.2.2.2.2.2.2.2.2.2.2.2.2.2.2.2.2.2.2.2.1
theorem d_CM_meet_124 : decode prog_1_method_37_code 124 = .ok (.lreturn, 1) := F_CM_meet_62.2.2.2.2.2.2.2.2.2.2.2.2.2.2.2.2.2.2.2.2.2.2.2.2.2.2.2.2.1
theorem F_CM_arePoints_0 : Jvm.Free.DS.Facts prog_1_method_83_code 0 [(.aload_n 0, 1), (.getfield 12, 3), (.iload_n 1, 1), (.invokevirtual 160, 3), (.ifCond .eq (41), 3), (.aload_n 0, 1), (.getfield 12, 3), (.iload_n 2, 1), (.invokevirtual 160, 3), (.ifCond .eq (30), 3), (.aload_n 0, 1), (.getfield 12, 3), (.iload_n 3, 1), (.invokevirtual 160, 3), (.ifCond .eq (19), 3), (.aload_n 0, 1), (.getfield 12, 3), (.iload 4, 2), (.invokevirtual 160, 3), (.ifCond .eq (7), 3), (.iconst 1, 1), (.goto (4), 3), (.iconst 0, 1), (.ireturn, 1)] := Jvm.Free.DS.facts 0 _ (by decide +kernel) (by decide +kernel)
theorem d_CM_arePoints_0 : decode prog_1_method_83_code 0 = .ok (.aload_n 0, 1) := F_CM_arePoints_0.1
theorem d_CM_arePoints_1 : decode prog_1_method_83_code 1 = .ok (.getfield 12, 3) := F_CM_arePoints_0.2.1
theorem d_CM_arePoints_4 : decode prog_1_method_83_code 4 = .ok (.iload_n 1, 1) := F_CM_arePoints_0.2.2.1
theorem d_CM_arePoints_5 : decode prog_1_method_83_code 5 = .ok (.invokevirtual 160, 3) := F_CM_arePoints_0.2.2.2.1
theorem d_CM_arePoints_8 : decode prog_1_method_83_code 8 = .ok (.ifCond .eq (41), 3) := F_CM_arePoints_0.2.2.2.2.1
theorem d_CM_arePoints_11 : decode prog_1_method_83_code 11 = .ok (.aload_n 0, 1) := F_CM_arePoints_0.2.2.2.2.2.1
theorem d_CM_arePoints_12 : decode prog_1_method_83_code 12 = .ok (.getfield 12, 3) := F_CM_arePoints_0.2.2.2.2.2.2.1
theorem d_CM_arePoints_15 : decode prog_1_method_83_code 15 = .ok (.iload_n 2, 1) := F_CM_arePoints_0.2.2.2.2.2.2.2.1
theorem d_CM_arePoints_16 : decode prog_1_method_83_code 16 = .ok (.invokevirtual 160, 3) := F_CM_arePoints_0.2.2.2.2.2.2.2.2.1
theorem d_CM_arePoints_19 : decode prog_1_method_83_code 19 = .ok (.ifCond .eq (30), 3) := F_CM_arePoints_0.2.2.2.2.2.2.2.2.2.1
theorem d_CM_arePoints_22 : decode prog_1_method_83_code 22 = .ok (.aload_n 0, 1) := F_CM_arePoints_0.2.2.2.2.2.2.2.2.2.2.1
theorem d_CM_arePoints_23 : decode prog_1_method_83_code 23 = .ok (.getfield 12, 3) := F_CM_arePoints_0.2.2.2.2.2.2.2.2.2.2.2.1
theorem d_CM_arePoints_26 : decode prog_1_method_83_code 26 = .ok (.iload_n 3, 1) := F_CM_arePoints_0.2.2.2.2.2.2.2.2.2.2.2.2.1
theorem d_CM_arePoints_27 : decode prog_1_method_83_code 27 = .ok (.invokevirtual 160, 3) := F_CM_arePoints_0.2.2.2.2.2.2.2.2.2.2.2.2.2.1
theorem d_CM_arePoints_30 : decode prog_1_method_83_code 30 = .ok (.ifCond .eq (19), 3) := F_CM_arePoints_0.2.2.2.2.2.2.2.2.2.2.2.2.2.2.1
theorem d_CM_arePoints_33 : decode prog_1_method_83_code 33 = .ok (.aload_n 0, 1) := F_CM_arePoints_0.2.2.2.2.2.2.2.2.2.2.2.2.2.2.2.1
theorem d_CM_arePoints_34 : decode prog_1_method_83_code 34 = .ok (.getfield 12, 3) := F_CM_arePoints_0.2.2.2.2.2.2.2.2.2.2.2.2.2.2.2.2.1
theorem d_CM_arePoints_37 : decode prog_1_method_83_code 37 = .ok (.iload 4, 2) := F_CM_arePoints_0.2.2.2.2.2.2.2.2.2.2.2.2.2.2.2.2.2.1
theorem d_CM_arePoints_39 : decode prog_1_method_83_code 39 = .ok (.invokevirtual 160, 3) := F_CM_arePoints_0.2.2.2.2.2.2.2.2.2.2.2.2.2.2.2.2.2.2.1
theorem d_CM_arePoints_42 : decode prog_1_method_83_code 42 = .ok (.ifCond .eq (7), 3) := F_CM_arePoints_0.2.2.2.2.2.2.2.2.2.2.2.2.2.2.2.2.2.2.2.1
theorem d_CM_arePoints_45 : decode prog_1_method_83_code 45 = .ok (.iconst 1, 1) := F_CM_arePoints_0.2.2.2.2.2.2.2.2.2.2.2.2.2.2.2.2.2.2.2.2.1
theorem d_CM_arePoints_46 : decode prog_1_method_83_code 46 = .ok (.goto (4), 3) := F_CM_arePoints_0.2.2.2.2.2.2.2.2.2.2.2.2.2.2.2.2.2.2.2.2.2.1
theorem d_CM_arePoints_49 : decode prog_1_method_83_code 49 = .ok (.iconst 0, 1) := F_CM_arePoints_0.2.2.2.2.2.2.2.2.2.2.2.2.2.2.2.2.2.2.2.2.2.2.1
theorem d_CM_arePoints_50 : decode prog_1_method_83_code 50 = .ok (.ireturn, 1) := F_CM_arePoints_0.2.2.2.2.2.2.2.2.2.2.2.2.2.2.2.2.2.2.2.2.2.2.2.1
theorem F_CM_share_0 : Jvm.Free.DS.Facts prog_1_method_38_code 0 [(.aload_n 0, 1), (.iload_n 1, 1), (.iload_n 2, 1), (.iload_n 3, 1), (.iload 4, 2), (.invokevirtual 330, 3), (.ifCond .eq (11), 3), (.iload 5, 2), (.invokestatic 136, 3), (.ifCond .ne (7), 3), (.ldc2_w 270, 3), (.lreturn, 1), (.aload_n 0, 1), (.iload_n 1, 1), (.iload_n 2, 1), (.iload_n 3, 1), (.iload 4, 2), (.invokevirtual 334, 3), (.ifCond .ne (35), 3), (.aload_n 0, 1), (.iload_n 1, 1), (.iload_n 2, 1), (.iload_n 3, 1), (.invokevirtual 327, 3), (.ifCond .eq (25), 3), (.aload_n 0, 1), (.iload_n 1, 1), (.iload_n 2, 1), (.iload 4, 2), (.invokevirtual 327, 3), (.ifCond .eq (14), 3), (.aload_n 0, 1)] := Jvm.Free.DS.facts 0 _ (by decide +kernel) (by decide +kernel)
theorem d_CM_share_0 : decode prog_1_method_38_code 0 = .ok (.aload_n 0, 1) := F_CM_share_0.1
theorem d_CM_share_1 : decode prog_1_method_38_code 1 = .ok (.iload_n 1, 1) := F_CM_share_0.2.1
theorem d_CM_share_2 : decode prog_1_method_38_code 2 = .ok (.iload_n 2, 1) := F_CM_share_0.2.2.1
theorem d_CM_share_3 : decode prog_1_method_38_code 3 = .ok (.iload_n 3, 1) := F_CM_share_0.2.2.2.1
theorem d_CM_share_4 : decode prog_1_method_38_code 4 = .ok (.iload 4, 2) := F_CM_share_0.2.2.2.2.1
theorem d_CM_share_6 : decode prog_1_method_38_code 6 = .ok (.invokevirtual 330, 3) := F_CM_share_0.2.2.2.2.2.1
theorem d_CM_share_9 : decode prog_1_method_38_code 9 = .ok (.ifCond .eq (11), 3) := F_CM_share_0.2.2.2.2.2.2.1
theorem d_CM_share_12 : decode prog_1_method_38_code 12 = .ok (.iload 5, 2) := F_CM_share_0.2.2.2.2.2.2.2.1
theorem d_CM_share_14 : decode prog_1_method_38_code 14 = .ok (.invokestatic 136, 3) := F_CM_share_0.2.2.2.2.2.2.2.2.1
theorem d_CM_share_17 : decode prog_1_method_38_code 17 = .ok (.ifCond .ne (7), 3) := F_CM_share_0.2.2.2.2.2.2.2.2.2.1
theorem d_CM_share_20 : decode prog_1_method_38_code 20 = .ok (.ldc2_w 270, 3) := F_CM_share_0.2.2.2.2.2.2.2.2.2.2.1
theorem d_CM_share_23 : decode prog_1_method_38_code 23 = .ok (.lreturn, 1) := F_CM_share_0.2.2.2.2.2.2.2.2.2.2.2.1
theorem d_CM_share_24 : decode prog_1_method_38_code 24 = .ok (.aload_n 0, 1) := F_CM_share_0.2.2.2.2.2.2.2.2.2.2.2.2.1
theorem d_CM_share_25 : decode prog_1_method_38_code 25 = .ok (.iload_n 1, 1) := F_CM_share_0.2.2.2.2.2.2.2.2.2.2.2.2.2.1
theorem d_CM_share_26 : decode prog_1_method_38_code 26 = .ok (.iload_n 2, 1) := F_CM_share_0.2.2.2.2.2.2.2.2.2.2.2.2.2.2.1
theorem d_CM_share_27 : decode prog_1_method_38_code 27 = .ok (.iload_n 3, 1) := F_CM_share_0.2.2.2.2.2.2.2.2.2.2.2.2.2.2.2.1
theorem d_CM_share_28 : decode prog_1_method_38_code 28 = .ok (.iload 4, 2) := F_CM_share_0.2.2.2.2.2.2.2.2.2.2.2.2.2.2.2.2.1
theorem d_CM_share_30 : decode prog_1_method_38_code 30 = .ok (.invokevirtual 334, 3) := F_CM_share_0.2.2.2.2.2.2.2.2.2.2.2.2.2.2.2.2.2.1
theorem d_CM_share_33 : decode prog_1_method_38_code 33 = .ok (.ifCond .ne (35), 3) := F_CM_share_0.2.2.2.2.2.2.2.2.2.2.2.2.2.2.2.2.2.2.1
theorem d_CM_share_36 : decode prog_1_method_38_code 36 = .ok (.aload_n 0, 1) := F_CM_share_0.2.2.2.2.2.2.2.2.2.2.2.2.2.2.2.2.2.2.2.1
theorem d_CM_share_37 : decode prog_1_method_38_code 37 = .ok (.iload_n 1, 1) := F_CM_share_0.2.2.2.2.2.2.2.2.2.2.2.2.2.2.2.2.2.2.2.2.1
theorem d_CM_share_38 : decode prog_1_method_38_code 38 = .ok (.iload_n 2, 1) := F_CM_share_0.2.2.2.2.2.2.2.2.2.2.2.2.2.2.2.2.2.2.2.2.2.1
theorem d_CM_share_39 : decode prog_1_method_38_code 39 = .ok (.iload_n 3, 1) := F_CM_share_0.2.2.2.2.2.2.2.2.2.2.2.2.2.2.2.2.2.2.2.2.2.2.1
theorem d_CM_share_40 : decode prog_1_method_38_code 40 = .ok (.invokevirtual 327, 3) := F_CM_share_0.2.2.2.2.2.2.2.2.2.2.2.2.2.2.2.2.2.2.2.2.2.2.2.1
theorem d_CM_share_43 : decode prog_1_method_38_code 43 = .ok (.ifCond .eq (25), 3) := F_CM_share_0.2.2.2.2.2.2.2.2.2.2.2.2.2.2.2.2.2.2.2.2.2.2.2.2.1
theorem d_CM_share_46 : decode prog_1_method_38_code 46 = .ok (.aload_n 0, 1) := F_CM_share_0.2.2.2.2.2.2.2.2.2.2.2.2.2.2.2.2.2.2.2.2.2.2.2.2.2.1
theorem d_CM_share_47 : decode prog_1_method_38_code 47 = .ok (.iload_n 1, 1) := F_CM_share_0.2.2.2.2.2.2.2.2.2.2.2.2.2.2.2.2.2.2.2.2.2.2.2.2.2.2.1
theorem d_CM_share_48 : decode prog_1_method_38_code 48 = .ok (.iload_n 2, 1) := F_CM_share_0.2.2.2.2.2.2.2.2.2.2.2.2.2.2.2.2.2.2.2.2.2.2.2.2.2.2.2.1
theorem d_CM_share_49 : decode prog_1_method_38_code 49 = .ok (.iload 4, 2) := F_CM_share_0.2.2.2.2.2.2.2.2.2.2.2.2.2.2.2.2.2.2.2.2.2.2.2.2.2.2.2.2.1
theorem d_CM_share_51 : decode prog_1_method_38_code 51 = .ok (.invokevirtual 327, 3) := F_CM_share_0.2.2.2.2.2.2.2.2.2.2.2.2.2.2.2.2.2.2.2.2.2.2.2.2.2.2.2.2.2.1
theorem d_CM_share_54 : decode prog_1_method_38_code 54 = .ok (.ifCond .eq (14), 3) := F_CM_share_0.2.2.2.2.2.2.2.2.2.2.2.2.2.2.2.2.2.2.2.2.2.2.2.2.2.2.2.2.2.2.1
theorem d_CM_share_57 : decode prog_1_method_38_code 57 = .ok (.aload_n 0, 1) := F_CM_share_0.2.2.2.2.2.2.2.2.2.2.2.2.2.2.2.2.2.2.2.2.2.2.2.2.2.2.2.2.2.2.2.1
theorem F_CM_share_58 : Jvm.Free.DS.Facts prog_1_method_38_code 58 [(.iload_n 2, 1), (.iload_n 3, 1), (.iload 4, 2), (.invokevirtual 327, 3), (.ifCond .ne (7), 3), (.ldc2_w 275, 3), (.lreturn, 1), (.aload_n 0, 1), (.iload_n 1, 1), (.iload_n 2, 1), (.iload_n 3, 1), (.invokevirtual 337, 3), (.istore 6, 2), (.aload_n 0, 1), (.iload 6, 2), (.iload_n 1, 1), (.iload_n 3, 1), (.invokevirtual 341, 3), (.aload_n 0, 1), (.iload 6, 2), (.iload_n 2, 1), (.iload 4, 2), (.invokevirtual 341, 3), (.lmul, 1), (.lstore 7, 2), (.aload_n 0, 1), (.iload 6, 2), (.iload_n 2, 1), (.iload_n 3, 1), (.invokevirtual 341, 3), (.aload_n 0, 1), (.iload 6, 2)] := Jvm.Free.DS.facts 58 _ (by decide +kernel) (by decide +kernel)
theorem d_CM_share_58 : decode prog_1_method_38_code 58 = .ok (.iload_n 2, 1) := F_CM_share_58.1
theorem d_CM_share_59 : decode prog_1_method_38_code 59 = .ok (.iload_n 3, 1) := F_CM_share_58.2.1
theorem d_CM_share_60 : decode prog_1_method_38_code 60 = .ok (.iload 4, 2) := F_CM_share_58.2.2.1
theorem d_CM_share_62 : decode prog_1_method_38_code 62 = .ok (.invokevirtual 327, 3) := F_CM_share_58.2.2.2.1
theorem d_CM_share_65 : decode prog_1_method_38_code 65 = .ok (.ifCond .ne (7), 3) := F_CM_share_58.2.2.2.2.1
theorem d_CM_share_68 : decode prog_1_method_38_code 68 = .ok (.ldc2_w 275, 3) := F_CM_share_58.2.2.2.2.2.1
theorem d_CM_share_71 : decode prog_1_method_38_code 71 = .ok (.lreturn, 1) := F_CM_share_58.2.2.2.2.2.2.1
theorem d_CM_share_72 : decode prog_1_method_38_code 72 = .ok (.aload_n 0, 1) := F_CM_share_58.2.2.2.2.2.2.2.1
theorem d_CM_share_73 : decode prog_1_method_38_code 73 = .ok (.iload_n 1, 1) := F_CM_share_58.2.2.2.2.2.2.2.2.1
theorem d_CM_share_74 : decode prog_1_method_38_code 74 = .ok (.iload_n 2, 1) := F_CM_share_58.2.2.2.2.2.2.2.2.2.1
theorem d_CM_share_75 : decode prog_1_method_38_code 75 = .ok (.iload_n 3, 1) := F_CM_share_58.2.2.2.2.2.2.2.2.2.2.1
theorem d_CM_share_76 : decode prog_1_method_38_code 76 = .ok (.invokevirtual 337, 3) := F_CM_share_58.2.2.2.2.2.2.2.2.2.2.2.1
theorem d_CM_share_79 : decode prog_1_method_38_code 79 = .ok (.istore 6, 2) := F_CM_share_58.2.2.2.2.2.2.2.2.2.2.2.2.1
theorem d_CM_share_81 : decode prog_1_method_38_code 81 = .ok (.aload_n 0, 1) := F_CM_share_58.2.2.2.2.2.2.2.2.2.2.2.2.2.1
theorem d_CM_share_82 : decode prog_1_method_38_code 82 = .ok (.iload 6, 2) := F_CM_share_58.2.2.2.2.2.2.2.2.2.2.2.2.2.2.1
theorem d_CM_share_84 : decode prog_1_method_38_code 84 = .ok (.iload_n 1, 1) := F_CM_share_58.2.2.2.2.2.2.2.2.2.2.2.2.2.2.2.1
theorem d_CM_share_85 : decode prog_1_method_38_code 85 = .ok (.iload_n 3, 1) := F_CM_share_58.2.2.2.2.2.2.2.2.2.2.2.2.2.2.2.2.1
theorem d_CM_share_86 : decode prog_1_method_38_code 86 = .ok (.invokevirtual 341, 3) := F_CM_share_58.2.2.2.2.2.2.2.2.2.2.2.2.2.2.2.2.2.1
theorem d_CM_share_89 : decode prog_1_method_38_code 89 = .ok (.aload_n 0, 1) := F_CM_share_58.2.2.2.2.2.2.2.2.2.2.2.2.2.2.2.2.2.2.1
theorem d_CM_share_90 : decode prog_1_method_38_code 90 = .ok (.iload 6, 2) := F_CM_share_58.2.2.2.2.2.2.2.2.2.2.2.2.2.2.2.2.2.2.2.1
theorem d_CM_share_92 : decode prog_1_method_38_code 92 = .ok (.iload_n 2, 1) := F_CM_share_58.2.2.2.2.2.2.2.2.2.2.2.2.2.2.2.2.2.2.2.2.1
theorem d_CM_share_93 : decode prog_1_method_38_code 93 = .ok (.iload 4, 2) := F_CM_share_58.2.2.2.2.2.2.2.2.2.2.2.2.2.2.2.2.2.2.2.2.2.1
theorem d_CM_share_95 : decode prog_1_method_38_code 95 = .ok (.invokevirtual 341, 3) := F_CM_share_58.2.2.2.2.2.2.2.2.2.2.2.2.2.2.2.2.2.2.2.2.2.2.1
theorem d_CM_share_98 : decode prog_1_method_38_code 98 = .ok (.lmul, 1) := F_CM_share_58.2.2.2.2.2.2.2.2.2.2.2.2.2.2.2.2.2.2.2.2.2.2.2.1
theorem d_CM_share_99 : decode prog_1_method_38_code 99 = .ok (.lstore 7, 2) := F_CM_share_58.2.2.2.2.2.2.2.2.2.2.2.2.2.2.2.2.2.2.2.2.2.2.2.2.1
theorem d_CM_share_101 : decode prog_1_method_38_code 101 = .ok (.aload_n 0, 1) := F_CM_share_58.2.2.2.2.2.2.2.2.2.2.2.2.2.2.2.2.2.2.2.2.2.2.2.2.2.1
theorem d_CM_share_102 : decode prog_1_method_38_code 102 = .ok (.iload 6, 2) := F_CM_share_58.2.2.2.2.2.2.2.2.2.2.2.2.2.2.2.2.2.2.2.2.2.2.2.2.2.2.1
theorem d_CM_share_104 : decode prog_1_method_38_code 104 = .ok (.iload_n 2, 1) := F_CM_share_58.2.2.2.2.2.2.2.2.2.2.2.2.2.2.2.2.2.2.2.2.2.2.2.2.2.2.2.1
theorem d_CM_share_105 : decode prog_1_method_38_code 105 = .ok (.iload_n 3, 1) := F_CM_share_58.2.2.2.2.2.2.2.2.2.2.2.2.2.2.2.2.2.2.2.2.2.2.2.2.2.2.2.2.1
theorem d_CM_share_106 : decode prog_1_method_38_code 106 = .ok (.invokevirtual 341, 3) := F_CM_share_58.2.2.2.2.2.2.2.2.2.2.2.2.2.2.2.2.2.2.2.2.2.2.2.2.2.2.2.2.2.1
theorem d_CM_share_109 : decode prog_1_method_38_code 109 = .ok (.aload_n 0, 1) := F_CM_share_58.2.2.2.2.2.2.2.2.2.2.2.2.2.2.2.2.2.2.2.2.2.2.2.2.2.2.2.2.2.2.1
theorem d_CM_share_110 : decode prog_1_method_38_code 110 = .ok (.iload 6, 2) := F_CM_share_58.2.2.2.2.2.2.2.2.2.2.2.2.2.2.2.2.2.2.2.2.2.2.2.2.2.2.2.2.2.2.2.1
theorem F_CM_share_112 : Jvm.Free.DS.Facts prog_1_method_38_code 112 [(.iload_n 1, 1), (.iload 4, 2), (.invokevirtual 341, 3), (.lmul, 1), (.lstore 9, 2), (.lload 9, 2), (.lconst 0, 1), (.lcmp, 1), (.ifCond .ne (11), 3), (.iconst 1, 1), (.iload 5, 2), (.isub, 1), (.i2l, 1), (.goto (12), 3), (.lload 7, 2), (.lload 9, 2), (.iload 5, 2), (.invokestatic 345, 3), (.lreturn, 1)] := Jvm.Free.DS.facts 112 _ (by decide +kernel) (by decide +kernel)
theorem d_CM_share_112 : decode prog_1_method_38_code 112 = .ok (.iload_n 1, 1) := F_CM_share_112.1
theorem d_CM_share_113 : decode prog_1_method_38_code 113 = .ok (.iload 4, 2) := F_CM_share_112.2.1
theorem d_CM_share_115 : decode prog_1_method_38_code 115 = .ok (.invokevirtual 341, 3) := F_CM_share_112.2.2.1
theorem d_CM_share_118 : decode prog_1_method_38_code 118 = .ok (.lmul, 1) := F_CM_share_112.2.2.2.1
theorem d_CM_share_119 : decode prog_1_method_38_code 119 = .ok (.lstore 9, 2) := F_CM_share_112.2.2.2.2.1
theorem d_CM_share_121 : decode prog_1_method_38_code 121 = .ok (.lload 9, 2) := F_CM_share_112.2.2.2.2.2.1
theorem d_CM_share_123 : decode prog_1_method_38_code 123 = .ok (.lconst 0, 1) := F_CM_share_112.2.2.2.2.2.2.1
theorem d_CM_share_124 : decode prog_1_method_38_code 124 = .ok (.lcmp, 1) := F_CM_share_112.2.2.2.2.2.2.2.1
theorem d_CM_share_125 : decode prog_1_method_38_code 125 = .ok (.ifCond .ne (11), 3) := F_CM_share_112.2.2.2.2.2.2.2.2.1
theorem d_CM_share_128 : decode prog_1_method_38_code 128 = .ok (.iconst 1, 1) := F_CM_share_112.2.2.2.2.2.2.2.2.2.1
theorem d_CM_share_129 : decode prog_1_method_38_code 129 = .ok (.iload 5, 2) := F_CM_share_112.2.2.2.2.2.2.2.2.2.2.1
theorem d_CM_share_131 : decode prog_1_method_38_code 131 = .ok (.isub, 1) := F_CM_share_112.2.2.2.2.2.2.2.2.2.2.2.1
theorem d_CM_share_132 : decode prog_1_method_38_code 132 = .ok (.i2l, 1) := F_CM_share_112.2.2.2.2.2.2.2.2.2.2.2.2.1
theorem d_CM_share_133 : decode prog_1_method_38_code 133 = .ok (.goto (12), 3) := F_CM_share_112.2.2.2.2.2.2.2.2.2.2.2.2.2.1
theorem d_CM_share_136 : decode prog_1_method_38_code 136 = .ok (.lload 7, 2) := F_CM_share_112.2.2.2.2.2.2.2.2.2.2.2.2.2.2.1
theorem d_CM_share_138 : decode prog_1_method_38_code 138 = .ok (.lload 9, 2) := F_CM_share_112.2.2.2.2.2.2.2.2.2.2.2.2.2.2.2.1
theorem d_CM_share_140 : decode prog_1_method_38_code 140 = .ok (.iload 5, 2) := F_CM_share_112.2.2.2.2.2.2.2.2.2.2.2.2.2.2.2.2.1
theorem d_CM_share_142 : decode prog_1_method_38_code 142 = .ok (.invokestatic 345, 3) := F_CM_share_112.2.2.2.2.2.2.2.2.2.2.2.2.2.2.2.2.2.1
theorem d_CM_share_145 : decode prog_1_method_38_code 145 = .ok (.lreturn, 1) := F_CM_share_112.2.2.2.2.2.2.2.2.2.2.2.2.2.2.2.2.2.2.1
theorem F_CM_isPart_0 : Jvm.Free.DS.Facts prog_1_method_74_code 0 [(.iload_n 0, 1), (.ifCond .eq (8), 3), (.iload_n 0, 1), (.iconst 1, 1), (.if_icmp .ne (7), 3), (.iconst 1, 1), (.goto (4), 3), (.iconst 0, 1), (.ireturn, 1)] := Jvm.Free.DS.facts 0 _ (by decide +kernel) (by decide +kernel)
theorem d_CM_isPart_0 : decode prog_1_method_74_code 0 = .ok (.iload_n 0, 1) := F_CM_isPart_0.1
theorem d_CM_isPart_1 : decode prog_1_method_74_code 1 = .ok (.ifCond .eq (8), 3) := F_CM_isPart_0.2.1
theorem d_CM_isPart_4 : decode prog_1_method_74_code 4 = .ok (.iload_n 0, 1) := F_CM_isPart_0.2.2.1
theorem d_CM_isPart_5 : decode prog_1_method_74_code 5 = .ok (.iconst 1, 1) := F_CM_isPart_0.2.2.2.1
theorem d_CM_isPart_6 : decode prog_1_method_74_code 6 = .ok (.if_icmp .ne (7), 3) := F_CM_isPart_0.2.2.2.2.1
theorem d_CM_isPart_9 : decode prog_1_method_74_code 9 = .ok (.iconst 1, 1) := F_CM_isPart_0.2.2.2.2.2.1
theorem d_CM_isPart_10 : decode prog_1_method_74_code 10 = .ok (.goto (4), 3) := F_CM_isPart_0.2.2.2.2.2.2.1
theorem d_CM_isPart_13 : decode prog_1_method_74_code 13 = .ok (.iconst 0, 1) := F_CM_isPart_0.2.2.2.2.2.2.2.1
theorem d_CM_isPart_14 : decode prog_1_method_74_code 14 = .ok (.ireturn, 1) := F_CM_isPart_0.2.2.2.2.2.2.2.2.1
theorem F_CM_hasThreeAlike_0 : Jvm.Free.DS.Facts prog_1_method_92_code 0 [(.aload_n 0, 1), (.iload_n 1, 1), (.iload_n 2, 1), (.invokevirtual 349, 3), (.ifCond .eq (28), 3), (.aload_n 0, 1), (.iload_n 1, 1), (.iload_n 3, 1), (.invokevirtual 349, 3), (.ifCond .ne (13), 3), (.aload_n 0, 1), (.iload_n 1, 1), (.iload 4, 2), (.invokevirtual 349, 3), (.ifCond .eq (7), 3), (.iconst 1, 1), (.goto (4), 3), (.iconst 0, 1), (.ireturn, 1), (.aload_n 0, 1), (.iload_n 3, 1), (.iload 4, 2), (.invokevirtual 349, 3), (.ifCond .eq (25), 3), (.aload_n 0, 1), (.iload_n 1, 1), (.iload_n 3, 1), (.invokevirtual 349, 3), (.ifCond .ne (12), 3), (.aload_n 0, 1), (.iload_n 2, 1), (.iload_n 3, 1)] := Jvm.Free.DS.facts 0 _ (by decide +kernel) (by decide +kernel)
theorem d_CM_hasThreeAlike_0 : decode prog_1_method_92_code 0 = .ok (.aload_n 0, 1) := F_CM_hasThreeAlike_0.1
theorem d_CM_hasThreeAlike_1 : decode prog_1_method_92_code 1 = .ok (.iload_n 1, 1) := F_CM_hasThreeAlike_0.2.1
theorem d_CM_hasThreeAlike_2 : decode prog_1_method_92_code 2 = .ok (.iload_n 2, 1) := F_CM_hasThreeAlike_0.2.2.1
theorem d_CM_hasThreeAlike_3 : decode prog_1_method_92_code 3 = .ok (.invokevirtual 349, 3) := F_CM_hasThreeAlike_0.2.2.2.1
theorem d_CM_hasThreeAlike_6 : decode prog_1_method_92_code 6 = .ok (.ifCond .eq (28), 3) := F_CM_hasThreeAlike_0.2.2.2.2.1
theorem d_CM_hasThreeAlike_9 : decode prog_1_method_92_code 9 = .ok (.aload_n 0, 1) := F_CM_hasThreeAlike_0.2.2.2.2.2.1
theorem d_CM_hasThreeAlike_10 : decode prog_1_method_92_code 10 = .ok (.iload_n 1, 1) := F_CM_hasThreeAlike_0.2.2.2.2.2.2.1
theorem d_CM_hasThreeAlike_11 : decode prog_1_method_92_code 11 = .ok (.iload_n 3, 1) := F_CM_hasThreeAlike_0.2.2.2.2.2.2.2.1
theorem d_CM_hasThreeAlike_12 : decode prog_1_method_92_code 12 = .ok (.invokevirtual 349, 3) := F_CM_hasThreeAlike_0.2.2.2.2.2.2.2.2.1
theorem d_CM_hasThreeAlike_15 : decode prog_1_method_92_code 15 = .ok (.ifCond .ne (13), 3) := F_CM_hasThreeAlike_0.2.2.2.2.2.2.2.2.2.1
theorem d_CM_hasThreeAlike_18 : decode prog_1_method_92_code 18 = .ok (.aload_n 0, 1) := F_CM_hasThreeAlike_0.2.2.2.2.2.2.2.2.2.2.1
theorem d_CM_hasThreeAlike_19 : decode prog_1_method_92_code 19 = .ok (.iload_n 1, 1) := F_CM_hasThreeAlike_0.2.2.2.2.2.2.2.2.2.2.2.1
theorem d_CM_hasThreeAlike_20 : decode prog_1_method_92_code 20 = .ok (.iload 4, 2) := F_CM_hasThreeAlike_0.2.2.2.2.2.2.2.2.2.2.2.2.1
theorem d_CM_hasThreeAlike_22 : decode prog_1_method_92_code 22 = .ok (.invokevirtual 349, 3) := F_CM_hasThreeAlike_0.2.2.2.2.2.2.2.2.2.2.2.2.2.1
theorem d_CM_hasThreeAlike_25 : decode prog_1_method_92_code 25 = .ok (.ifCond .eq (7), 3) := F_CM_hasThreeAlike_0.2.2.2.2.2.2.2.2.2.2.2.2.2.2.1
theorem d_CM_hasThreeAlike_28 : decode prog_1_method_92_code 28 = .ok (.iconst 1, 1) := F_CM_hasThreeAlike_0.2.2.2.2.2.2.2.2.2.2.2.2.2.2.2.1
theorem d_CM_hasThreeAlike_29 : decode prog_1_method_92_code 29 = .ok (.goto (4), 3) := F_CM_hasThreeAlike_0.2.2.2.2.2.2.2.2.2.2.2.2.2.2.2.2.1
theorem d_CM_hasThreeAlike_32 : decode prog_1_method_92_code 32 = .ok (.iconst 0, 1) := F_CM_hasThreeAlike_0.2.2.2.2.2.2.2.2.2.2.2.2.2.2.2.2.2.1
theorem d_CM_hasThreeAlike_33 : decode prog_1_method_92_code 33 = .ok (.ireturn, 1) := F_CM_hasThreeAlike_0.2.2.2.2.2.2.2.2.2.2.2.2.2.2.2.2.2.2.1
theorem d_CM_hasThreeAlike_34 : decode prog_1_method_92_code 34 = .ok (.aload_n 0, 1) := F_CM_hasThreeAlike_0.2.2.2.2.2.2.2.2.2.2.2.2.2.2.2.2.2.2.2.1
theorem d_CM_hasThreeAlike_35 : decode prog_1_method_92_code 35 = .ok (.iload_n 3, 1) := F_CM_hasThreeAlike_0.2.2.2.2.2.2.2.2.2.2.2.2.2.2.2.2.2.2.2.2.1
theorem d_CM_hasThreeAlike_36 : decode prog_1_method_92_code 36 = .ok (.iload 4, 2) := F_CM_hasThreeAlike_0.2.2.2.2.2.2.2.2.2.2.2.2.2.2.2.2.2.2.2.2.2.1
theorem d_CM_hasThreeAlike_38 : decode prog_1_method_92_code 38 = .ok (.invokevirtual 349, 3) := F_CM_hasThreeAlike_0.2.2.2.2.2.2.2.2.2.2.2.2.2.2.2.2.2.2.2.2.2.2.1
theorem d_CM_hasThreeAlike_41 : decode prog_1_method_92_code 41 = .ok (.ifCond .eq (25), 3) := F_CM_hasThreeAlike_0.2.2.2.2.2.2.2.2.2.2.2.2.2.2.2.2.2.2.2.2.2.2.2.1
theorem d_CM_hasThreeAlike_44 : decode prog_1_method_92_code 44 = .ok (.aload_n 0, 1) := F_CM_hasThreeAlike_0.2.2.2.2.2.2.2.2.2.2.2.2.2.2.2.2.2.2.2.2.2.2.2.2.1
theorem d_CM_hasThreeAlike_45 : decode prog_1_method_92_code 45 = .ok (.iload_n 1, 1) := F_CM_hasThreeAlike_0.2.2.2.2.2.2.2.2.2.2.2.2.2.2.2.2.2.2.2.2.2.2.2.2.2.1
theorem d_CM_hasThreeAlike_46 : decode prog_1_method_92_code 46 = .ok (.iload_n 3, 1) := F_CM_hasThreeAlike_0.2.2.2.2.2.2.2.2.2.2.2.2.2.2.2.2.2.2.2.2.2.2.2.2.2.2.1
theorem d_CM_hasThreeAlike_47 : decode prog_1_method_92_code 47 = .ok (.invokevirtual 349, 3) := F_CM_hasThreeAlike_0.2.2.2.2.2.2.2.2.2.2.2.2.2.2.2.2.2.2.2.2.2.2.2.2.2.2.2.1
theorem d_CM_hasThreeAlike_50 : decode prog_1_method_92_code 50 = .ok (.ifCond .ne (12), 3) := F_CM_hasThreeAlike_0.2.2.2.2.2.2.2.2.2.2.2.2.2.2.2.2.2.2.2.2.2.2.2.2.2.2.2.2.1
theorem d_CM_hasThreeAlike_53 : decode prog_1_method_92_code 53 = .ok (.aload_n 0, 1) := F_CM_hasThreeAlike_0.2.2.2.2.2.2.2.2.2.2.2.2.2.2.2.2.2.2.2.2.2.2.2.2.2.2.2.2.2.1
theorem d_CM_hasThreeAlike_54 : decode prog_1_method_92_code 54 = .ok (.iload_n 2, 1) := F_CM_hasThreeAlike_0.2.2.2.2.2.2.2.2.2.2.2.2.2.2.2.2.2.2.2.2.2.2.2.2.2.2.2.2.2.2.1
theorem d_CM_hasThreeAlike_55 : decode prog_1_method_92_code 55 = .ok (.iload_n 3, 1) := F_CM_hasThreeAlike_0.2.2.2.2.2.2.2.2.2.2.2.2.2.2.2.2.2.2.2.2.2.2.2.2.2.2.2.2.2.2.2.1
theorem F_CM_hasThreeAlike_56 : Jvm.Free.DS.Facts prog_1_method_92_code 56 [(.invokevirtual 349, 3), (.ifCond .eq (7), 3), (.iconst 1, 1), (.goto (4), 3), (.iconst 0, 1), (.ireturn, 1)] := Jvm.Free.DS.facts 56 _ (by decide +kernel) (by decide +kernel)
theorem d_CM_hasThreeAlike_56 : decode prog_1_method_92_code 56 = .ok (.invokevirtual 349, 3) := F_CM_hasThreeAlike_56.1
theorem d_CM_hasThreeAlike_59 : decode prog_1_method_92_code 59 = .ok (.ifCond .eq (7), 3) := F_CM_hasThreeAlike_56.2.1
theorem d_CM_hasThreeAlike_62 : decode prog_1_method_92_code 62 = .ok (.iconst 1, 1) := F_CM_hasThreeAlike_56.2.2.1
theorem d_CM_hasThreeAlike_63 : decode prog_1_method_92_code 63 = .ok (.goto (4), 3) := F_CM_hasThreeAlike_56.2.2.2.1
theorem d_CM_hasThreeAlike_66 : decode prog_1_method_92_code 66 = .ok (.iconst 0, 1) := F_CM_hasThreeAlike_56.2.2.2.2.1
theorem d_CM_hasThreeAlike_67 : decode prog_1_method_92_code 67 = .ok (.ireturn, 1) := F_CM_hasThreeAlike_56.2.2.2.2.2.1
theorem F_CM_areAlike_0 : Jvm.Free.DS.Facts prog_1_method_90_code 0 [(.aload_n 0, 1), (.getfield 12, 3), (.getfield 163, 3), (.iload_n 1, 1), (.aaload, 1), (.aload_n 0, 1), (.getfield 12, 3), (.getfield 163, 3), (.iload_n 2, 1), (.aaload, 1), (.invokestatic 306, 3), (.ireturn, 1)] := Jvm.Free.DS.facts 0 _ (by decide +kernel) (by decide +kernel)
theorem d_CM_areAlike_0 : decode prog_1_method_90_code 0 = .ok (.aload_n 0, 1) := F_CM_areAlike_0.1
theorem d_CM_areAlike_1 : decode prog_1_method_90_code 1 = .ok (.getfield 12, 3) := F_CM_areAlike_0.2.1
theorem d_CM_areAlike_4 : decode prog_1_method_90_code 4 = .ok (.getfield 163, 3) := F_CM_areAlike_0.2.2.1
theorem d_CM_areAlike_7 : decode prog_1_method_90_code 7 = .ok (.iload_n 1, 1) := F_CM_areAlike_0.2.2.2.1
theorem d_CM_areAlike_8 : decode prog_1_method_90_code 8 = .ok (.aaload, 1) := F_CM_areAlike_0.2.2.2.2.1
theorem d_CM_areAlike_9 : decode prog_1_method_90_code 9 = .ok (.aload_n 0, 1) := F_CM_areAlike_0.2.2.2.2.2.1
theorem d_CM_areAlike_10 : decode prog_1_method_90_code 10 = .ok (.getfield 12, 3) := F_CM_areAlike_0.2.2.2.2.2.2.1
theorem d_CM_areAlike_13 : decode prog_1_method_90_code 13 = .ok (.getfield 163, 3) := F_CM_areAlike_0.2.2.2.2.2.2.2.1
theorem d_CM_areAlike_16 : decode prog_1_method_90_code 16 = .ok (.iload_n 2, 1) := F_CM_areAlike_0.2.2.2.2.2.2.2.2.1
theorem d_CM_areAlike_17 : decode prog_1_method_90_code 17 = .ok (.aaload, 1) := F_CM_areAlike_0.2.2.2.2.2.2.2.2.2.1
theorem d_CM_areAlike_18 : decode prog_1_method_90_code 18 = .ok (.invokestatic 306, 3) := F_CM_areAlike_0.2.2.2.2.2.2.2.2.2.2.1
theorem d_CM_areAlike_21 : decode prog_1_method_90_code 21 = .ok (.ireturn, 1) := F_CM_areAlike_0.2.2.2.2.2.2.2.2.2.2.2.1
theorem F_CM_axisOutside_0 : Jvm.Free.DS.Facts prog_1_method_93_code 0 [(.aload_n 0, 1), (.getfield 12, 3), (.getfield 163, 3), (.iload_n 1, 1), (.aaload, 1), (.aload_n 0, 1), (.getfield 12, 3), (.getfield 163, 3), (.iload_n 2, 1), (.aaload, 1), (.aload_n 0, 1), (.getfield 84, 3), (.invokestatic 324, 3), (.ifCond .ne (29), 3), (.aload_n 0, 1), (.getfield 12, 3), (.getfield 163, 3), (.iload_n 1, 1), (.aaload, 1), (.aload_n 0, 1), (.getfield 12, 3), (.getfield 163, 3), (.iload_n 3, 1), (.aaload, 1), (.aload_n 0, 1), (.getfield 84, 3), (.invokestatic 324, 3), (.pop, 1), (.iconst 0, 1), (.istore 4, 2), (.iload 4, 2), (.iconst 2, 1)] := Jvm.Free.DS.facts 0 _ (by decide +kernel) (by decide +kernel)
theorem d_CM_axisOutside_0 : decode prog_1_method_93_code 0 = .ok (.aload_n 0, 1) := F_CM_axisOutside_0.1
theorem d_CM_axisOutside_1 : decode prog_1_method_93_code 1 = .ok (.getfield 12, 3) := F_CM_axisOutside_0.2.1
theorem d_CM_axisOutside_4 : decode prog_1_method_93_code 4 = .ok (.getfield 163, 3) := F_CM_axisOutside_0.2.2.1
theorem d_CM_axisOutside_7 : decode prog_1_method_93_code 7 = .ok (.iload_n 1, 1) := F_CM_axisOutside_0.2.2.2.1
theorem d_CM_axisOutside_8 : decode prog_1_method_93_code 8 = .ok (.aaload, 1) := F_CM_axisOutside_0.2.2.2.2.1
theorem d_CM_axisOutside_9 : decode prog_1_method_93_code 9 = .ok (.aload_n 0, 1) := F_CM_axisOutside_0.2.2.2.2.2.1
theorem d_CM_axisOutside_10 : decode prog_1_method_93_code 10 = .ok (.getfield 12, 3) := F_CM_axisOutside_0.2.2.2.2.2.2.1
theorem d_CM_axisOutside_13 : decode prog_1_method_93_code 13 = .ok (.getfield 163, 3) := F_CM_axisOutside_0.2.2.2.2.2.2.2.1
theorem d_CM_axisOutside_16 : decode prog_1_method_93_code 16 = .ok (.iload_n 2, 1) := F_CM_axisOutside_0.2.2.2.2.2.2.2.2.1
theorem d_CM_axisOutside_17 : decode prog_1_method_93_code 17 = .ok (.aaload, 1) := F_CM_axisOutside_0.2.2.2.2.2.2.2.2.2.1
theorem d_CM_axisOutside_18 : decode prog_1_method_93_code 18 = .ok (.aload_n 0, 1) := F_CM_axisOutside_0.2.2.2.2.2.2.2.2.2.2.1
theorem d_CM_axisOutside_19 : decode prog_1_method_93_code 19 = .ok (.getfield 84, 3) := F_CM_axisOutside_0.2.2.2.2.2.2.2.2.2.2.2.1
theorem d_CM_axisOutside_22 : decode prog_1_method_93_code 22 = .ok (.invokestatic 324, 3) := F_CM_axisOutside_0.2.2.2.2.2.2.2.2.2.2.2.2.1
theorem d_CM_axisOutside_25 : decode prog_1_method_93_code 25 = .ok (.ifCond .ne (29), 3) := F_CM_axisOutside_0.2.2.2.2.2.2.2.2.2.2.2.2.2.1
theorem d_CM_axisOutside_28 : decode prog_1_method_93_code 28 = .ok (.aload_n 0, 1) := F_CM_axisOutside_0.2.2.2.2.2.2.2.2.2.2.2.2.2.2.1
theorem d_CM_axisOutside_29 : decode prog_1_method_93_code 29 = .ok (.getfield 12, 3) := F_CM_axisOutside_0.2.2.2.2.2.2.2.2.2.2.2.2.2.2.2.1
theorem d_CM_axisOutside_32 : decode prog_1_method_93_code 32 = .ok (.getfield 163, 3) := F_CM_axisOutside_0.2.2.2.2.2.2.2.2.2.2.2.2.2.2.2.2.1
theorem d_CM_axisOutside_35 : decode prog_1_method_93_code 35 = .ok (.iload_n 1, 1) := F_CM_axisOutside_0.2.2.2.2.2.2.2.2.2.2.2.2.2.2.2.2.2.1
theorem d_CM_axisOutside_36 : decode prog_1_method_93_code 36 = .ok (.aaload, 1) := F_CM_axisOutside_0.2.2.2.2.2.2.2.2.2.2.2.2.2.2.2.2.2.2.1
theorem d_CM_axisOutside_37 : decode prog_1_method_93_code 37 = .ok (.aload_n 0, 1) := F_CM_axisOutside_0.2.2.2.2.2.2.2.2.2.2.2.2.2.2.2.2.2.2.2.1
theorem d_CM_axisOutside_38 : decode prog_1_method_93_code 38 = .ok (.getfield 12, 3) := F_CM_axisOutside_0.2.2.2.2.2.2.2.2.2.2.2.2.2.2.2.2.2.2.2.2.1
theorem d_CM_axisOutside_41 : decode prog_1_method_93_code 41 = .ok (.getfield 163, 3) := F_CM_axisOutside_0.2.2.2.2.2.2.2.2.2.2.2.2.2.2.2.2.2.2.2.2.2.1
theorem d_CM_axisOutside_44 : decode prog_1_method_93_code 44 = .ok (.iload_n 3, 1) := F_CM_axisOutside_0.2.2.2.2.2.2.2.2.2.2.2.2.2.2.2.2.2.2.2.2.2.2.1
theorem d_CM_axisOutside_45 : decode prog_1_method_93_code 45 = .ok (.aaload, 1) := F_CM_axisOutside_0.2.2.2.2.2.2.2.2.2.2.2.2.2.2.2.2.2.2.2.2.2.2.2.1
theorem d_CM_axisOutside_46 : decode prog_1_method_93_code 46 = .ok (.aload_n 0, 1) := F_CM_axisOutside_0.2.2.2.2.2.2.2.2.2.2.2.2.2.2.2.2.2.2.2.2.2.2.2.2.1
theorem d_CM_axisOutside_47 : decode prog_1_method_93_code 47 = .ok (.getfield 84, 3) := F_CM_axisOutside_0.2.2.2.2.2.2.2.2.2.2.2.2.2.2.2.2.2.2.2.2.2.2.2.2.2.1
theorem d_CM_axisOutside_50 : decode prog_1_method_93_code 50 = .ok (.invokestatic 324, 3) := F_CM_axisOutside_0.2.2.2.2.2.2.2.2.2.2.2.2.2.2.2.2.2.2.2.2.2.2.2.2.2.2.1
theorem d_CM_axisOutside_53 : decode prog_1_method_93_code 53 = .ok (.pop, 1) := F_CM_axisOutside_0.2.2.2.2.2.2.2.2.2.2.2.2.2.2.2.2.2.2.2.2.2.2.2.2.2.2.2.1
theorem d_CM_axisOutside_54 : decode prog_1_method_93_code 54 = .ok (.iconst 0, 1) := F_CM_axisOutside_0.2.2.2.2.2.2.2.2.2.2.2.2.2.2.2.2.2.2.2.2.2.2.2.2.2.2.2.2.1
theorem d_CM_axisOutside_55 : decode prog_1_method_93_code 55 = .ok (.istore 4, 2) := F_CM_axisOutside_0.2.2.2.2.2.2.2.2.2.2.2.2.2.2.2.2.2.2.2.2.2.2.2.2.2.2.2.2.2.1
theorem d_CM_axisOutside_57 : decode prog_1_method_93_code 57 = .ok (.iload 4, 2) := F_CM_axisOutside_0.2.2.2.2.2.2.2.2.2.2.2.2.2.2.2.2.2.2.2.2.2.2.2.2.2.2.2.2.2.2.1
theorem d_CM_axisOutside_59 : decode prog_1_method_93_code 59 = .ok (.iconst 2, 1) := F_CM_axisOutside_0.2.2.2.2.2.2.2.2.2.2.2.2.2.2.2.2.2.2.2.2.2.2.2.2.2.2.2.2.2.2.2.1
theorem F_CM_axisOutside_60 : Jvm.Free.DS.Facts prog_1_method_93_code 60 [(.if_icmp .ge (24), 3), (.aload_n 0, 1), (.getfield 84, 3), (.iload 4, 2), (.laload, 1), (.lconst 0, 1), (.lcmp, 1), (.ifCond .eq (6), 3), (.iload 4, 2), (.ireturn, 1), (.iinc 4 (1), 3), (.goto (-24), 3), (.iconst 2, 1), (.ireturn, 1)] := Jvm.Free.DS.facts 60 _ (by decide +kernel) (by decide +kernel)
theorem d_CM_axisOutside_60 : decode prog_1_method_93_code 60 = .ok (.if_icmp .ge (24), 3) := F_CM_axisOutside_60.1
theorem d_CM_axisOutside_63 : decode prog_1_method_93_code 63 = .ok (.aload_n 0, 1) := F_CM_axisOutside_60.2.1
theorem d_CM_axisOutside_64 : decode prog_1_method_93_code 64 = .ok (.getfield 84, 3) := F_CM_axisOutside_60.2.2.1
theorem d_CM_axisOutside_67 : decode prog_1_method_93_code 67 = .ok (.iload 4, 2) := F_CM_axisOutside_60.2.2.2.1
theorem d_CM_axisOutside_69 : decode prog_1_method_93_code 69 = .ok (.laload, 1) := F_CM_axisOutside_60.2.2.2.2.1
theorem d_CM_axisOutside_70 : decode prog_1_method_93_code 70 = .ok (.lconst 0, 1) := F_CM_axisOutside_60.2.2.2.2.2.1
theorem d_CM_axisOutside_71 : decode prog_1_method_93_code 71 = .ok (.lcmp, 1) := F_CM_axisOutside_60.2.2.2.2.2.2.1
theorem d_CM_axisOutside_72 : decode prog_1_method_93_code 72 = .ok (.ifCond .eq (6), 3) := F_CM_axisOutside_60.2.2.2.2.2.2.2.1
theorem d_CM_axisOutside_75 : decode prog_1_method_93_code 75 = .ok (.iload 4, 2) := F_CM_axisOutside_60.2.2.2.2.2.2.2.2.1
theorem d_CM_axisOutside_77 : decode prog_1_method_93_code 77 = .ok (.ireturn, 1) := F_CM_axisOutside_60.2.2.2.2.2.2.2.2.2.1
theorem d_CM_axisOutside_78 : decode prog_1_method_93_code 78 = .ok (.iinc 4 (1), 3) := F_CM_axisOutside_60.2.2.2.2.2.2.2.2.2.2.1
theorem d_CM_axisOutside_81 : decode prog_1_method_93_code 81 = .ok (.goto (-24), 3) := F_CM_axisOutside_60.2.2.2.2.2.2.2.2.2.2.2.1
theorem d_CM_axisOutside_84 : decode prog_1_method_93_code 84 = .ok (.iconst 2, 1) := F_CM_axisOutside_60.2.2.2.2.2.2.2.2.2.2.2.2.1
theorem d_CM_axisOutside_85 : decode prog_1_method_93_code 85 = .ok (.ireturn, 1) := F_CM_axisOutside_60.2.2.2.2.2.2.2.2.2.2.2.2.2.1
theorem F_CM_span_0 : Jvm.Free.DS.Facts prog_1_method_94_code 0 [(.iload_n 1, 1), (.iconst 2, 1), (.if_icmp .ne (7), 3), (.iconst 0, 1), (.goto (6), 3), (.iload_n 1, 1), (.iconst 1, 1), (.iadd, 1), (.istore 4, 2), (.iload_n 1, 1), (.ifCond .ne (7), 3), (.iconst 2, 1), (.goto (6), 3), (.iload_n 1, 1), (.iconst 1, 1), (.isub, 1), (.istore 5, 2), (.aload_n 0, 1), (.getfield 12, 3), (.getfield 163, 3), (.iload_n 2, 1), (.aaload, 1), (.astore 6, 2), (.aload_n 0, 1), (.getfield 12, 3), (.getfield 163, 3), (.iload_n 3, 1), (.aaload, 1), (.astore 7, 2), (.aload 6, 2), (.iload 4, 2), (.laload, 1)] := Jvm.Free.DS.facts 0 _ (by decide +kernel) (by decide +kernel)
theorem d_CM_span_0 : decode prog_1_method_94_code 0 = .ok (.iload_n 1, 1) := F_CM_span_0.1
theorem d_CM_span_1 : decode prog_1_method_94_code 1 = .ok (.iconst 2, 1) := F_CM_span_0.2.1
theorem d_CM_span_2 : decode prog_1_method_94_code 2 = .ok (.if_icmp .ne (7), 3) := F_CM_span_0.2.2.1
theorem d_CM_span_5 : decode prog_1_method_94_code 5 = .ok (.iconst 0, 1) := F_CM_span_0.2.2.2.1
theorem d_CM_span_6 : decode prog_1_method_94_code 6 = .ok (.goto (6), 3) := F_CM_span_0.2.2.2.2.1
theorem d_CM_span_9 : decode prog_1_method_94_code 9 = .ok (.iload_n 1, 1) := F_CM_span_0.2.2.2.2.2.1
theorem d_CM_span_10 : decode prog_1_method_94_code 10 = .ok (.iconst 1, 1) := F_CM_span_0.2.2.2.2.2.2.1
theorem d_CM_span_11 : decode prog_1_method_94_code 11 = .ok (.iadd, 1) := F_CM_span_0.2.2.2.2.2.2.2.1
theorem d_CM_span_12 : decode prog_1_method_94_code 12 = .ok (.istore 4, 2) := F_CM_span_0.2.2.2.2.2.2.2.2.1
theorem d_CM_span_14 : decode prog_1_method_94_code 14 = .ok (.iload_n 1, 1) := F_CM_span_0.2.2.2.2.2.2.2.2.2.1
theorem d_CM_span_15 : decode prog_1_method_94_code 15 = .ok (.ifCond .ne (7), 3) := F_CM_span_0.2.2.2.2.2.2.2.2.2.2.1
theorem d_CM_span_18 : decode prog_1_method_94_code 18 = .ok (.iconst 2, 1) := F_CM_span_0.2.2.2.2.2.2.2.2.2.2.2.1
theorem d_CM_span_19 : decode prog_1_method_94_code 19 = .ok (.goto (6), 3) := F_CM_span_0.2.2.2.2.2.2.2.2.2.2.2.2.1
theorem d_CM_span_22 : decode prog_1_method_94_code 22 = .ok (.iload_n 1, 1) := F_CM_span_0.2.2.2.2.2.2.2.2.2.2.2.2.2.1
theorem d_CM_span_23 : decode prog_1_method_94_code 23 = .ok (.iconst 1, 1) := F_CM_span_0.2.2.2.2.2.2.2.2.2.2.2.2.2.2.1
theorem d_CM_span_24 : decode prog_1_method_94_code 24 = .ok (.isub, 1) := F_CM_span_0.2.2.2.2.2.2.2.2.2.2.2.2.2.2.2.1
theorem d_CM_span_25 : decode prog_1_method_94_code 25 = .ok (.istore 5, 2) := F_CM_span_0.2.2.2.2.2.2.2.2.2.2.2.2.2.2.2.2.1
theorem d_CM_span_27 : decode prog_1_method_94_code 27 = .ok (.aload_n 0, 1) := F_CM_span_0.2.2.2.2.2.2.2.2.2.2.2.2.2.2.2.2.2.1
theorem d_CM_span_28 : decode prog_1_method_94_code 28 = .ok (.getfield 12, 3) := F_CM_span_0.2.2.2.2.2.2.2.2.2.2.2.2.2.2.2.2.2.2.1
theorem d_CM_span_31 : decode prog_1_method_94_code 31 = .ok (.getfield 163, 3) := F_CM_span_0.2.2.2.2.2.2.2.2.2.2.2.2.2.2.2.2.2.2.2.1
theorem d_CM_span_34 : decode prog_1_method_94_code 34 = .ok (.iload_n 2, 1) := F_CM_span_0.2.2.2.2.2.2.2.2.2.2.2.2.2.2.2.2.2.2.2.2.1
theorem d_CM_span_35 : decode prog_1_method_94_code 35 = .ok (.aaload, 1) := F_CM_span_0.2.2.2.2.2.2.2.2.2.2.2.2.2.2.2.2.2.2.2.2.2.1
theorem d_CM_span_36 : decode prog_1_method_94_code 36 = .ok (.astore 6, 2) := F_CM_span_0.2.2.2.2.2.2.2.2.2.2.2.2.2.2.2.2.2.2.2.2.2.2.1
theorem d_CM_span_38 : decode prog_1_method_94_code 38 = .ok (.aload_n 0, 1) := F_CM_span_0.2.2.2.2.2.2.2.2.2.2.2.2.2.2.2.2.2.2.2.2.2.2.2.1
theorem d_CM_span_39 : decode prog_1_method_94_code 39 = .ok (.getfield 12, 3) := F_CM_span_0.2.2.2.2.2.2.2.2.2.2.2.2.2.2.2.2.2.2.2.2.2.2.2.2.1
theorem d_CM_span_42 : decode prog_1_method_94_code 42 = .ok (.getfield 163, 3) := F_CM_span_0.2.2.2.2.2.2.2.2.2.2.2.2.2.2.2.2.2.2.2.2.2.2.2.2.2.1
theorem d_CM_span_45 : decode prog_1_method_94_code 45 = .ok (.iload_n 3, 1) := F_CM_span_0.2.2.2.2.2.2.2.2.2.2.2.2.2.2.2.2.2.2.2.2.2.2.2.2.2.2.1
theorem d_CM_span_46 : decode prog_1_method_94_code 46 = .ok (.aaload, 1) := F_CM_span_0.2.2.2.2.2.2.2.2.2.2.2.2.2.2.2.2.2.2.2.2.2.2.2.2.2.2.2.1
theorem d_CM_span_47 : decode prog_1_method_94_code 47 = .ok (.astore 7, 2) := F_CM_span_0.2.2.2.2.2.2.2.2.2.2.2.2.2.2.2.2.2.2.2.2.2.2.2.2.2.2.2.2.1
theorem d_CM_span_49 : decode prog_1_method_94_code 49 = .ok (.aload 6, 2) := F_CM_span_0.2.2.2.2.2.2.2.2.2.2.2.2.2.2.2.2.2.2.2.2.2.2.2.2.2.2.2.2.2.1
theorem d_CM_span_51 : decode prog_1_method_94_code 51 = .ok (.iload 4, 2) := F_CM_span_0.2.2.2.2.2.2.2.2.2.2.2.2.2.2.2.2.2.2.2.2.2.2.2.2.2.2.2.2.2.2.1
theorem d_CM_span_53 : decode prog_1_method_94_code 53 = .ok (.laload, 1) := F_CM_span_0.2.2.2.2.2.2.2.2.2.2.2.2.2.2.2.2.2.2.2.2.2.2.2.2.2.2.2.2.2.2.2.1
theorem F_CM_span_54 : Jvm.Free.DS.Facts prog_1_method_94_code 54 [(.aload 7, 2), (.iload 5, 2), (.laload, 1), (.lmul, 1), (.aload 6, 2), (.iload 5, 2), (.laload, 1), (.aload 7, 2), (.iload 4, 2), (.laload, 1), (.lmul, 1), (.lsub, 1), (.lreturn, 1)] := Jvm.Free.DS.facts 54 _ (by decide +kernel) (by decide +kernel)
theorem d_CM_span_54 : decode prog_1_method_94_code 54 = .ok (.aload 7, 2) := F_CM_span_54.1
theorem d_CM_span_56 : decode prog_1_method_94_code 56 = .ok (.iload 5, 2) := F_CM_span_54.2.1
theorem d_CM_span_58 : decode prog_1_method_94_code 58 = .ok (.laload, 1) := F_CM_span_54.2.2.1
theorem d_CM_span_59 : decode prog_1_method_94_code 59 = .ok (.lmul, 1) := F_CM_span_54.2.2.2.1
theorem d_CM_span_60 : decode prog_1_method_94_code 60 = .ok (.aload 6, 2) := F_CM_span_54.2.2.2.2.1
theorem d_CM_span_62 : decode prog_1_method_94_code 62 = .ok (.iload 5, 2) := F_CM_span_54.2.2.2.2.2.1
theorem d_CM_span_64 : decode prog_1_method_94_code 64 = .ok (.laload, 1) := F_CM_span_54.2.2.2.2.2.2.1
theorem d_CM_span_65 : decode prog_1_method_94_code 65 = .ok (.aload 7, 2) := F_CM_span_54.2.2.2.2.2.2.2.1
theorem d_CM_span_67 : decode prog_1_method_94_code 67 = .ok (.iload 4, 2) := F_CM_span_54.2.2.2.2.2.2.2.2.1
theorem d_CM_span_69 : decode prog_1_method_94_code 69 = .ok (.laload, 1) := F_CM_span_54.2.2.2.2.2.2.2.2.2.1
theorem d_CM_span_70 : decode prog_1_method_94_code 70 = .ok (.lmul, 1) := F_CM_span_54.2.2.2.2.2.2.2.2.2.2.1
theorem d_CM_span_71 : decode prog_1_method_94_code 71 = .ok (.lsub, 1) := F_CM_span_54.2.2.2.2.2.2.2.2.2.2.2.1
theorem d_CM_span_72 : decode prog_1_method_94_code 72 = .ok (.lreturn, 1) := F_CM_span_54.2.2.2.2.2.2.2.2.2.2.2.2.1
theorem F_Rows_lowest_0 : Jvm.Free.DS.Facts prog_9_method_6_code 0 [(.lload_n 0, 1), (.lload_n 2, 1), (.invokestatic 17, 3), (.lstore 5, 2), (.lload 5, 2), (.lconst 0, 1), (.lcmp, 1), (.ifCond .ne (5), 3), (.lconst 0, 1), (.lreturn, 1), (.iload 4, 2), (.ifCond .ne (7), 3), (.lload_n 0, 1), (.goto (4), 3), (.lload_n 2, 1), (.lload_n 2, 1), (.lconst 0, 1), (.lcmp, 1), (.ifCond .ge (9), 3), (.lload 5, 2), (.lneg, 1), (.goto (5), 3), (.lload 5, 2), (.ldiv, 1), (.lreturn, 1)] := Jvm.Free.DS.facts 0 _ (by decide +kernel) (by decide +kernel)
theorem d_Rows_lowest_0 : decode prog_9_method_6_code 0 = .ok (.lload_n 0, 1) := F_Rows_lowest_0.1
theorem d_Rows_lowest_1 : decode prog_9_method_6_code 1 = .ok (.lload_n 2, 1) := F_Rows_lowest_0.2.1
theorem d_Rows_lowest_2 : decode prog_9_method_6_code 2 = .ok (.invokestatic 17, 3) := F_Rows_lowest_0.2.2.1
theorem d_Rows_lowest_5 : decode prog_9_method_6_code 5 = .ok (.lstore 5, 2) := F_Rows_lowest_0.2.2.2.1
theorem d_Rows_lowest_7 : decode prog_9_method_6_code 7 = .ok (.lload 5, 2) := F_Rows_lowest_0.2.2.2.2.1
theorem d_Rows_lowest_9 : decode prog_9_method_6_code 9 = .ok (.lconst 0, 1) := F_Rows_lowest_0.2.2.2.2.2.1
theorem d_Rows_lowest_10 : decode prog_9_method_6_code 10 = .ok (.lcmp, 1) := F_Rows_lowest_0.2.2.2.2.2.2.1
theorem d_Rows_lowest_11 : decode prog_9_method_6_code 11 = .ok (.ifCond .ne (5), 3) := F_Rows_lowest_0.2.2.2.2.2.2.2.1
theorem d_Rows_lowest_14 : decode prog_9_method_6_code 14 = .ok (.lconst 0, 1) := F_Rows_lowest_0.2.2.2.2.2.2.2.2.1
theorem d_Rows_lowest_15 : decode prog_9_method_6_code 15 = .ok (.lreturn, 1) := F_Rows_lowest_0.2.2.2.2.2.2.2.2.2.1
theorem d_Rows_lowest_16 : decode prog_9_method_6_code 16 = .ok (.iload 4, 2) := F_Rows_lowest_0.2.2.2.2.2.2.2.2.2.2.1
theorem d_Rows_lowest_18 : decode prog_9_method_6_code 18 = .ok (.ifCond .ne (7), 3) := F_Rows_lowest_0.2.2.2.2.2.2.2.2.2.2.2.1
theorem d_Rows_lowest_21 : decode prog_9_method_6_code 21 = .ok (.lload_n 0, 1) := F_Rows_lowest_0.2.2.2.2.2.2.2.2.2.2.2.2.1
theorem d_Rows_lowest_22 : decode prog_9_method_6_code 22 = .ok (.goto (4), 3) := F_Rows_lowest_0.2.2.2.2.2.2.2.2.2.2.2.2.2.1
theorem d_Rows_lowest_25 : decode prog_9_method_6_code 25 = .ok (.lload_n 2, 1) := F_Rows_lowest_0.2.2.2.2.2.2.2.2.2.2.2.2.2.2.1
theorem d_Rows_lowest_26 : decode prog_9_method_6_code 26 = .ok (.lload_n 2, 1) := F_Rows_lowest_0.2.2.2.2.2.2.2.2.2.2.2.2.2.2.2.1
theorem d_Rows_lowest_27 : decode prog_9_method_6_code 27 = .ok (.lconst 0, 1) := F_Rows_lowest_0.2.2.2.2.2.2.2.2.2.2.2.2.2.2.2.2.1
theorem d_Rows_lowest_28 : decode prog_9_method_6_code 28 = .ok (.lcmp, 1) := F_Rows_lowest_0.2.2.2.2.2.2.2.2.2.2.2.2.2.2.2.2.2.1
theorem d_Rows_lowest_29 : decode prog_9_method_6_code 29 = .ok (.ifCond .ge (9), 3) := F_Rows_lowest_0.2.2.2.2.2.2.2.2.2.2.2.2.2.2.2.2.2.2.1
theorem d_Rows_lowest_32 : decode prog_9_method_6_code 32 = .ok (.lload 5, 2) := F_Rows_lowest_0.2.2.2.2.2.2.2.2.2.2.2.2.2.2.2.2.2.2.2.1
theorem d_Rows_lowest_34 : decode prog_9_method_6_code 34 = .ok (.lneg, 1) := F_Rows_lowest_0.2.2.2.2.2.2.2.2.2.2.2.2.2.2.2.2.2.2.2.2.1
theorem d_Rows_lowest_35 : decode prog_9_method_6_code 35 = .ok (.goto (5), 3) := F_Rows_lowest_0.2.2.2.2.2.2.2.2.2.2.2.2.2.2.2.2.2.2.2.2.2.1
theorem d_Rows_lowest_38 : decode prog_9_method_6_code 38 = .ok (.lload 5, 2) := F_Rows_lowest_0.2.2.2.2.2.2.2.2.2.2.2.2.2.2.2.2.2.2.2.2.2.2.1
theorem d_Rows_lowest_40 : decode prog_9_method_6_code 40 = .ok (.ldiv, 1) := F_Rows_lowest_0.2.2.2.2.2.2.2.2.2.2.2.2.2.2.2.2.2.2.2.2.2.2.2.1
theorem d_Rows_lowest_41 : decode prog_9_method_6_code 41 = .ok (.lreturn, 1) := F_Rows_lowest_0.2.2.2.2.2.2.2.2.2.2.2.2.2.2.2.2.2.2.2.2.2.2.2.2.1
theorem F_CM_fourth_0 : Jvm.Free.DS.Facts prog_1_method_39_code 0 [(.aload_n 0, 1), (.iload_n 1, 1), (.iload_n 2, 1), (.iload_n 3, 1), (.iload_n 3, 1), (.invokevirtual 330, 3), (.ifCond .eq (11), 3), (.iload 4, 2), (.invokestatic 154, 3), (.ifCond .ne (7), 3), (.ldc2_w 270, 3), (.lreturn, 1), (.aload_n 0, 1), (.iload_n 1, 1), (.iload_n 2, 1), (.iload_n 3, 1), (.invokevirtual 327, 3), (.ifCond .eq (30), 3), (.aload_n 0, 1), (.iload_n 1, 1), (.iload_n 2, 1), (.invokevirtual 349, 3), (.ifCond .ne (21), 3), (.aload_n 0, 1), (.iload_n 1, 1), (.iload_n 3, 1), (.invokevirtual 349, 3), (.ifCond .ne (12), 3), (.aload_n 0, 1), (.iload_n 2, 1), (.iload_n 3, 1), (.invokevirtual 349, 3)] := Jvm.Free.DS.facts 0 _ (by decide +kernel) (by decide +kernel)
theorem d_CM_fourth_0 : decode prog_1_method_39_code 0 = .ok (.aload_n 0, 1) := F_CM_fourth_0.1
theorem d_CM_fourth_1 : decode prog_1_method_39_code 1 = .ok (.iload_n 1, 1) := F_CM_fourth_0.2.1
theorem d_CM_fourth_2 : decode prog_1_method_39_code 2 = .ok (.iload_n 2, 1) := F_CM_fourth_0.2.2.1
theorem d_CM_fourth_3 : decode prog_1_method_39_code 3 = .ok (.iload_n 3, 1) := F_CM_fourth_0.2.2.2.1
theorem d_CM_fourth_4 : decode prog_1_method_39_code 4 = .ok (.iload_n 3, 1) := F_CM_fourth_0.2.2.2.2.1
theorem d_CM_fourth_5 : decode prog_1_method_39_code 5 = .ok (.invokevirtual 330, 3) := F_CM_fourth_0.2.2.2.2.2.1
theorem d_CM_fourth_8 : decode prog_1_method_39_code 8 = .ok (.ifCond .eq (11), 3) := F_CM_fourth_0.2.2.2.2.2.2.1
theorem d_CM_fourth_11 : decode prog_1_method_39_code 11 = .ok (.iload 4, 2) := F_CM_fourth_0.2.2.2.2.2.2.2.1
theorem d_CM_fourth_13 : decode prog_1_method_39_code 13 = .ok (.invokestatic 154, 3) := F_CM_fourth_0.2.2.2.2.2.2.2.2.1
theorem d_CM_fourth_16 : decode prog_1_method_39_code 16 = .ok (.ifCond .ne (7), 3) := F_CM_fourth_0.2.2.2.2.2.2.2.2.2.1
theorem d_CM_fourth_19 : decode prog_1_method_39_code 19 = .ok (.ldc2_w 270, 3) := F_CM_fourth_0.2.2.2.2.2.2.2.2.2.2.1
theorem d_CM_fourth_22 : decode prog_1_method_39_code 22 = .ok (.lreturn, 1) := F_CM_fourth_0.2.2.2.2.2.2.2.2.2.2.2.1
theorem d_CM_fourth_23 : decode prog_1_method_39_code 23 = .ok (.aload_n 0, 1) := F_CM_fourth_0.2.2.2.2.2.2.2.2.2.2.2.2.1
theorem d_CM_fourth_24 : decode prog_1_method_39_code 24 = .ok (.iload_n 1, 1) := F_CM_fourth_0.2.2.2.2.2.2.2.2.2.2.2.2.2.1
theorem d_CM_fourth_25 : decode prog_1_method_39_code 25 = .ok (.iload_n 2, 1) := F_CM_fourth_0.2.2.2.2.2.2.2.2.2.2.2.2.2.2.1
theorem d_CM_fourth_26 : decode prog_1_method_39_code 26 = .ok (.iload_n 3, 1) := F_CM_fourth_0.2.2.2.2.2.2.2.2.2.2.2.2.2.2.2.1
theorem d_CM_fourth_27 : decode prog_1_method_39_code 27 = .ok (.invokevirtual 327, 3) := F_CM_fourth_0.2.2.2.2.2.2.2.2.2.2.2.2.2.2.2.2.1
theorem d_CM_fourth_30 : decode prog_1_method_39_code 30 = .ok (.ifCond .eq (30), 3) := F_CM_fourth_0.2.2.2.2.2.2.2.2.2.2.2.2.2.2.2.2.2.1
theorem d_CM_fourth_33 : decode prog_1_method_39_code 33 = .ok (.aload_n 0, 1) := F_CM_fourth_0.2.2.2.2.2.2.2.2.2.2.2.2.2.2.2.2.2.2.1
theorem d_CM_fourth_34 : decode prog_1_method_39_code 34 = .ok (.iload_n 1, 1) := F_CM_fourth_0.2.2.2.2.2.2.2.2.2.2.2.2.2.2.2.2.2.2.2.1
theorem d_CM_fourth_35 : decode prog_1_method_39_code 35 = .ok (.iload_n 2, 1) := F_CM_fourth_0.2.2.2.2.2.2.2.2.2.2.2.2.2.2.2.2.2.2.2.2.1
theorem d_CM_fourth_36 : decode prog_1_method_39_code 36 = .ok (.invokevirtual 349, 3) := F_CM_fourth_0.2.2.2.2.2.2.2.2.2.2.2.2.2.2.2.2.2.2.2.2.2.1
theorem d_CM_fourth_39 : decode prog_1_method_39_code 39 = .ok (.ifCond .ne (21), 3) := F_CM_fourth_0.2.2.2.2.2.2.2.2.2.2.2.2.2.2.2.2.2.2.2.2.2.2.1
theorem d_CM_fourth_42 : decode prog_1_method_39_code 42 = .ok (.aload_n 0, 1) := F_CM_fourth_0.2.2.2.2.2.2.2.2.2.2.2.2.2.2.2.2.2.2.2.2.2.2.2.1
theorem d_CM_fourth_43 : decode prog_1_method_39_code 43 = .ok (.iload_n 1, 1) := F_CM_fourth_0.2.2.2.2.2.2.2.2.2.2.2.2.2.2.2.2.2.2.2.2.2.2.2.2.1
theorem d_CM_fourth_44 : decode prog_1_method_39_code 44 = .ok (.iload_n 3, 1) := F_CM_fourth_0.2.2.2.2.2.2.2.2.2.2.2.2.2.2.2.2.2.2.2.2.2.2.2.2.2.1
theorem d_CM_fourth_45 : decode prog_1_method_39_code 45 = .ok (.invokevirtual 349, 3) := F_CM_fourth_0.2.2.2.2.2.2.2.2.2.2.2.2.2.2.2.2.2.2.2.2.2.2.2.2.2.2.1
theorem d_CM_fourth_48 : decode prog_1_method_39_code 48 = .ok (.ifCond .ne (12), 3) := F_CM_fourth_0.2.2.2.2.2.2.2.2.2.2.2.2.2.2.2.2.2.2.2.2.2.2.2.2.2.2.2.1
theorem d_CM_fourth_51 : decode prog_1_method_39_code 51 = .ok (.aload_n 0, 1) := F_CM_fourth_0.2.2.2.2.2.2.2.2.2.2.2.2.2.2.2.2.2.2.2.2.2.2.2.2.2.2.2.2.1
theorem d_CM_fourth_52 : decode prog_1_method_39_code 52 = .ok (.iload_n 2, 1) := F_CM_fourth_0.2.2.2.2.2.2.2.2.2.2.2.2.2.2.2.2.2.2.2.2.2.2.2.2.2.2.2.2.2.1
theorem d_CM_fourth_53 : decode prog_1_method_39_code 53 = .ok (.iload_n 3, 1) := F_CM_fourth_0.2.2.2.2.2.2.2.2.2.2.2.2.2.2.2.2.2.2.2.2.2.2.2.2.2.2.2.2.2.2.1
theorem d_CM_fourth_54 : decode prog_1_method_39_code 54 = .ok (.invokevirtual 349, 3) := F_CM_fourth_0.2.2.2.2.2.2.2.2.2.2.2.2.2.2.2.2.2.2.2.2.2.2.2.2.2.2.2.2.2.2.2.1
theorem F_CM_fourth_57 : Jvm.Free.DS.Facts prog_1_method_39_code 57 [(.ifCond .eq (7), 3), (.ldc2_w 275, 3), (.lreturn, 1), (.aload_n 0, 1), (.iload_n 1, 1), (.iload_n 2, 1), (.iload_n 3, 1), (.invokevirtual 337, 3), (.istore 5, 2), (.aload_n 0, 1), (.iload 5, 2), (.iload_n 2, 1), (.iload_n 3, 1), (.invokevirtual 341, 3), (.lstore 6, 2), (.aload_n 0, 1), (.iload 5, 2), (.iload_n 1, 1), (.iload_n 3, 1), (.invokevirtual 341, 3), (.lstore 8, 2), (.iconst 0, 1), (.istore 10, 2), (.iload 10, 2), (.iconst 3, 1), (.if_icmp .ge (47), 3), (.aload_n 0, 1), (.getfield 78, 3), (.iload 10, 2), (.lload 6, 2), (.aload_n 0, 1), (.getfield 12, 3)] := Jvm.Free.DS.facts 57 _ (by decide +kernel) (by decide +kernel)
theorem d_CM_fourth_57 : decode prog_1_method_39_code 57 = .ok (.ifCond .eq (7), 3) := F_CM_fourth_57.1
theorem d_CM_fourth_60 : decode prog_1_method_39_code 60 = .ok (.ldc2_w 275, 3) := F_CM_fourth_57.2.1
theorem d_CM_fourth_63 : decode prog_1_method_39_code 63 = .ok (.lreturn, 1) := F_CM_fourth_57.2.2.1
theorem d_CM_fourth_64 : decode prog_1_method_39_code 64 = .ok (.aload_n 0, 1) := F_CM_fourth_57.2.2.2.1
theorem d_CM_fourth_65 : decode prog_1_method_39_code 65 = .ok (.iload_n 1, 1) := F_CM_fourth_57.2.2.2.2.1
theorem d_CM_fourth_66 : decode prog_1_method_39_code 66 = .ok (.iload_n 2, 1) := F_CM_fourth_57.2.2.2.2.2.1
theorem d_CM_fourth_67 : decode prog_1_method_39_code 67 = .ok (.iload_n 3, 1) := F_CM_fourth_57.2.2.2.2.2.2.1
theorem d_CM_fourth_68 : decode prog_1_method_39_code 68 = .ok (.invokevirtual 337, 3) := F_CM_fourth_57.2.2.2.2.2.2.2.1
theorem d_CM_fourth_71 : decode prog_1_method_39_code 71 = .ok (.istore 5, 2) := F_CM_fourth_57.2.2.2.2.2.2.2.2.1
theorem d_CM_fourth_73 : decode prog_1_method_39_code 73 = .ok (.aload_n 0, 1) := F_CM_fourth_57.2.2.2.2.2.2.2.2.2.1
theorem d_CM_fourth_74 : decode prog_1_method_39_code 74 = .ok (.iload 5, 2) := F_CM_fourth_57.2.2.2.2.2.2.2.2.2.2.1
theorem d_CM_fourth_76 : decode prog_1_method_39_code 76 = .ok (.iload_n 2, 1) := F_CM_fourth_57.2.2.2.2.2.2.2.2.2.2.2.1
theorem d_CM_fourth_77 : decode prog_1_method_39_code 77 = .ok (.iload_n 3, 1) := F_CM_fourth_57.2.2.2.2.2.2.2.2.2.2.2.2.1
theorem d_CM_fourth_78 : decode prog_1_method_39_code 78 = .ok (.invokevirtual 341, 3) := F_CM_fourth_57.2.2.2.2.2.2.2.2.2.2.2.2.2.1
theorem d_CM_fourth_81 : decode prog_1_method_39_code 81 = .ok (.lstore 6, 2) := F_CM_fourth_57.2.2.2.2.2.2.2.2.2.2.2.2.2.2.1
theorem d_CM_fourth_83 : decode prog_1_method_39_code 83 = .ok (.aload_n 0, 1) := F_CM_fourth_57.2.2.2.2.2.2.2.2.2.2.2.2.2.2.2.1
theorem d_CM_fourth_84 : decode prog_1_method_39_code 84 = .ok (.iload 5, 2) := F_CM_fourth_57.2.2.2.2.2.2.2.2.2.2.2.2.2.2.2.2.1
theorem d_CM_fourth_86 : decode prog_1_method_39_code 86 = .ok (.iload_n 1, 1) := F_CM_fourth_57.2.2.2.2.2.2.2.2.2.2.2.2.2.2.2.2.2.1
theorem d_CM_fourth_87 : decode prog_1_method_39_code 87 = .ok (.iload_n 3, 1) := F_CM_fourth_57.2.2.2.2.2.2.2.2.2.2.2.2.2.2.2.2.2.2.1
theorem d_CM_fourth_88 : decode prog_1_method_39_code 88 = .ok (.invokevirtual 341, 3) := F_CM_fourth_57.2.2.2.2.2.2.2.2.2.2.2.2.2.2.2.2.2.2.2.1
theorem d_CM_fourth_91 : decode prog_1_method_39_code 91 = .ok (.lstore 8, 2) := F_CM_fourth_57.2.2.2.2.2.2.2.2.2.2.2.2.2.2.2.2.2.2.2.2.1
theorem d_CM_fourth_93 : decode prog_1_method_39_code 93 = .ok (.iconst 0, 1) := F_CM_fourth_57.2.2.2.2.2.2.2.2.2.2.2.2.2.2.2.2.2.2.2.2.2.1
theorem d_CM_fourth_94 : decode prog_1_method_39_code 94 = .ok (.istore 10, 2) := F_CM_fourth_57.2.2.2.2.2.2.2.2.2.2.2.2.2.2.2.2.2.2.2.2.2.2.1
theorem d_CM_fourth_96 : decode prog_1_method_39_code 96 = .ok (.iload 10, 2) := F_CM_fourth_57.2.2.2.2.2.2.2.2.2.2.2.2.2.2.2.2.2.2.2.2.2.2.2.1
theorem d_CM_fourth_98 : decode prog_1_method_39_code 98 = .ok (.iconst 3, 1) := F_CM_fourth_57.2.2.2.2.2.2.2.2.2.2.2.2.2.2.2.2.2.2.2.2.2.2.2.2.1
theorem d_CM_fourth_99 : decode prog_1_method_39_code 99 = .ok (.if_icmp .ge (47), 3) := F_CM_fourth_57.2.2.2.2.2.2.2.2.2.2.2.2.2.2.2.2.2.2.2.2.2.2.2.2.2.1
theorem d_CM_fourth_102 : decode prog_1_method_39_code 102 = .ok (.aload_n 0, 1) := F_CM_fourth_57.2.2.2.2.2.2.2.2.2.2.2.2.2.2.2.2.2.2.2.2.2.2.2.2.2.2.1
theorem d_CM_fourth_103 : decode prog_1_method_39_code 103 = .ok (.getfield 78, 3) := F_CM_fourth_57.2.2.2.2.2.2.2.2.2.2.2.2.2.2.2.2.2.2.2.2.2.2.2.2.2.2.2.1
theorem d_CM_fourth_106 : decode prog_1_method_39_code 106 = .ok (.iload 10, 2) := F_CM_fourth_57.2.2.2.2.2.2.2.2.2.2.2.2.2.2.2.2.2.2.2.2.2.2.2.2.2.2.2.2.1
theorem d_CM_fourth_108 : decode prog_1_method_39_code 108 = .ok (.lload 6, 2) := F_CM_fourth_57.2.2.2.2.2.2.2.2.2.2.2.2.2.2.2.2.2.2.2.2.2.2.2.2.2.2.2.2.2.1
theorem d_CM_fourth_110 : decode prog_1_method_39_code 110 = .ok (.aload_n 0, 1) := F_CM_fourth_57.2.2.2.2.2.2.2.2.2.2.2.2.2.2.2.2.2.2.2.2.2.2.2.2.2.2.2.2.2.2.1
theorem d_CM_fourth_111 : decode prog_1_method_39_code 111 = .ok (.getfield 12, 3) := F_CM_fourth_57.2.2.2.2.2.2.2.2.2.2.2.2.2.2.2.2.2.2.2.2.2.2.2.2.2.2.2.2.2.2.2.1
theorem F_CM_fourth_114 : Jvm.Free.DS.Facts prog_1_method_39_code 114 [(.getfield 163, 3), (.iload_n 1, 1), (.aaload, 1), (.iload 10, 2), (.laload, 1), (.lmul, 1), (.lload 8, 2), (.aload_n 0, 1), (.getfield 12, 3), (.getfield 163, 3), (.iload_n 2, 1), (.aaload, 1), (.iload 10, 2), (.laload, 1), (.lmul, 1), (.ladd, 1), (.lastore, 1), (.iinc 10 (1), 3), (.goto (-47), 3), (.aload_n 0, 1), (.getfield 78, 3), (.invokestatic 352, 3), (.aload_n 0, 1), (.getfield 78, 3), (.iload 4, 2), (.laload, 1), (.lreturn, 1)] := Jvm.Free.DS.facts 114 _ (by decide +kernel) (by decide +kernel)
theorem d_CM_fourth_114 : decode prog_1_method_39_code 114 = .ok (.getfield 163, 3) := F_CM_fourth_114.1
theorem d_CM_fourth_117 : decode prog_1_method_39_code 117 = .ok (.iload_n 1, 1) := F_CM_fourth_114.2.1
theorem d_CM_fourth_118 : decode prog_1_method_39_code 118 = .ok (.aaload, 1) := F_CM_fourth_114.2.2.1
theorem d_CM_fourth_119 : decode prog_1_method_39_code 119 = .ok (.iload 10, 2) := F_CM_fourth_114.2.2.2.1
theorem d_CM_fourth_121 : decode prog_1_method_39_code 121 = .ok (.laload, 1) := F_CM_fourth_114.2.2.2.2.1
theorem d_CM_fourth_122 : decode prog_1_method_39_code 122 = .ok (.lmul, 1) := F_CM_fourth_114.2.2.2.2.2.1
theorem d_CM_fourth_123 : decode prog_1_method_39_code 123 = .ok (.lload 8, 2) := F_CM_fourth_114.2.2.2.2.2.2.1
theorem d_CM_fourth_125 : decode prog_1_method_39_code 125 = .ok (.aload_n 0, 1) := F_CM_fourth_114.2.2.2.2.2.2.2.1
theorem d_CM_fourth_126 : decode prog_1_method_39_code 126 = .ok (.getfield 12, 3) := F_CM_fourth_114.2.2.2.2.2.2.2.2.1
theorem d_CM_fourth_129 : decode prog_1_method_39_code 129 = .ok (.getfield 163, 3) := F_CM_fourth_114.2.2.2.2.2.2.2.2.2.1
theorem d_CM_fourth_132 : decode prog_1_method_39_code 132 = .ok (.iload_n 2, 1) := F_CM_fourth_114.2.2.2.2.2.2.2.2.2.2.1
theorem d_CM_fourth_133 : decode prog_1_method_39_code 133 = .ok (.aaload, 1) := F_CM_fourth_114.2.2.2.2.2.2.2.2.2.2.2.1
theorem d_CM_fourth_134 : decode prog_1_method_39_code 134 = .ok (.iload 10, 2) := F_CM_fourth_114.2.2.2.2.2.2.2.2.2.2.2.2.1
theorem d_CM_fourth_136 : decode prog_1_method_39_code 136 = .ok (.laload, 1) := F_CM_fourth_114.2.2.2.2.2.2.2.2.2.2.2.2.2.1
theorem d_CM_fourth_137 : decode prog_1_method_39_code 137 = .ok (.lmul, 1) := F_CM_fourth_114.2.2.2.2.2.2.2.2.2.2.2.2.2.2.1
theorem d_CM_fourth_138 : decode prog_1_method_39_code 138 = .ok (.ladd, 1) := F_CM_fourth_114.2.2.2.2.2.2.2.2.2.2.2.2.2.2.2.1
theorem d_CM_fourth_139 : decode prog_1_method_39_code 139 = .ok (.lastore, 1) := F_CM_fourth_114.2.2.2.2.2.2.2.2.2.2.2.2.2.2.2.2.1
theorem d_CM_fourth_140 : decode prog_1_method_39_code 140 = .ok (.iinc 10 (1), 3) := F_CM_fourth_114.2.2.2.2.2.2.2.2.2.2.2.2.2.2.2.2.2.1
theorem d_CM_fourth_143 : decode prog_1_method_39_code 143 = .ok (.goto (-47), 3) := F_CM_fourth_114.2.2.2.2.2.2.2.2.2.2.2.2.2.2.2.2.2.2.1
theorem d_CM_fourth_146 : decode prog_1_method_39_code 146 = .ok (.aload_n 0, 1) := F_CM_fourth_114.2.2.2.2.2.2.2.2.2.2.2.2.2.2.2.2.2.2.2.1
theorem d_CM_fourth_147 : decode prog_1_method_39_code 147 = .ok (.getfield 78, 3) := F_CM_fourth_114.2.2.2.2.2.2.2.2.2.2.2.2.2.2.2.2.2.2.2.2.1
theorem d_CM_fourth_150 : decode prog_1_method_39_code 150 = .ok (.invokestatic 352, 3) := F_CM_fourth_114.2.2.2.2.2.2.2.2.2.2.2.2.2.2.2.2.2.2.2.2.2.1
theorem d_CM_fourth_153 : decode prog_1_method_39_code 153 = .ok (.aload_n 0, 1) := F_CM_fourth_114.2.2.2.2.2.2.2.2.2.2.2.2.2.2.2.2.2.2.2.2.2.2.1
theorem d_CM_fourth_154 : decode prog_1_method_39_code 154 = .ok (.getfield 78, 3) := F_CM_fourth_114.2.2.2.2.2.2.2.2.2.2.2.2.2.2.2.2.2.2.2.2.2.2.2.1
theorem d_CM_fourth_157 : decode prog_1_method_39_code 157 = .ok (.iload 4, 2) := F_CM_fourth_114.2.2.2.2.2.2.2.2.2.2.2.2.2.2.2.2.2.2.2.2.2.2.2.2.1
theorem d_CM_fourth_159 : decode prog_1_method_39_code 159 = .ok (.laload, 1) := F_CM_fourth_114.2.2.2.2.2.2.2.2.2.2.2.2.2.2.2.2.2.2.2.2.2.2.2.2.2.1
theorem d_CM_fourth_160 : decode prog_1_method_39_code 160 = .ok (.lreturn, 1) := F_CM_fourth_114.2.2.2.2.2.2.2.2.2.2.2.2.2.2.2.2.2.2.2.2.2.2.2.2.2.2.1
theorem F_CM_track_0 : Jvm.Free.DS.Facts prog_1_method_40_code 0 [(.aload_n 0, 1), (.getfield 12, 3), (.iload_n 1, 1), (.invokevirtual 151, 3), (.ifCond .eq (32), 3), (.aload_n 0, 1), (.getfield 12, 3), (.iload_n 2, 1), (.invokevirtual 160, 3), (.ifCond .eq (21), 3), (.iload_n 3, 1), (.ifCond .lt (17), 3), (.iload_n 3, 1), (.bipush (20), 2), (.if_icmp .gt (11), 3), (.iload 4, 2), (.invokestatic 154, 3), (.ifCond .ne (7), 3), (.ldc2_w 270, 3), (.lreturn, 1), (.aload_n 0, 1), (.iload_n 1, 1), (.iload_n 2, 1), (.iload_n 3, 1), (.invokevirtual 355, 3), (.ifCond .eq (13), 3), (.aload_n 0, 1), (.getfield 81, 3), (.iload 4, 2), (.laload, 1), (.goto (6), 3), (.ldc2_w 275, 3)] := Jvm.Free.DS.facts 0 _ (by decide +kernel) (by decide +kernel)
theorem d_CM_track_0 : decode prog_1_method_40_code 0 = .ok (.aload_n 0, 1) := F_CM_track_0.1
theorem d_CM_track_1 : decode prog_1_method_40_code 1 = .ok (.getfield 12, 3) := F_CM_track_0.2.1
theorem d_CM_track_4 : decode prog_1_method_40_code 4 = .ok (.iload_n 1, 1) := F_CM_track_0.2.2.1
theorem d_CM_track_5 : decode prog_1_method_40_code 5 = .ok (.invokevirtual 151, 3) := F_CM_track_0.2.2.2.1
theorem d_CM_track_8 : decode prog_1_method_40_code 8 = .ok (.ifCond .eq (32), 3) := F_CM_track_0.2.2.2.2.1
theorem d_CM_track_11 : decode prog_1_method_40_code 11 = .ok (.aload_n 0, 1) := F_CM_track_0.2.2.2.2.2.1
theorem d_CM_track_12 : decode prog_1_method_40_code 12 = .ok (.getfield 12, 3) := F_CM_track_0.2.2.2.2.2.2.1
theorem d_CM_track_15 : decode prog_1_method_40_code 15 = .ok (.iload_n 2, 1) := F_CM_track_0.2.2.2.2.2.2.2.1
theorem d_CM_track_16 : decode prog_1_method_40_code 16 = .ok (.invokevirtual 160, 3) := F_CM_track_0.2.2.2.2.2.2.2.2.1
theorem d_CM_track_19 : decode prog_1_method_40_code 19 = .ok (.ifCond .eq (21), 3) := F_CM_track_0.2.2.2.2.2.2.2.2.2.1
theorem d_CM_track_22 : decode prog_1_method_40_code 22 = .ok (.iload_n 3, 1) := F_CM_track_0.2.2.2.2.2.2.2.2.2.2.1
theorem d_CM_track_23 : decode prog_1_method_40_code 23 = .ok (.ifCond .lt (17), 3) := F_CM_track_0.2.2.2.2.2.2.2.2.2.2.2.1
theorem d_CM_track_26 : decode prog_1_method_40_code 26 = .ok (.iload_n 3, 1) := F_CM_track_0.2.2.2.2.2.2.2.2.2.2.2.2.1
theorem d_CM_track_27 : decode prog_1_method_40_code 27 = .ok (.bipush (20), 2) := F_CM_track_0.2.2.2.2.2.2.2.2.2.2.2.2.2.1
theorem d_CM_track_29 : decode prog_1_method_40_code 29 = .ok (.if_icmp .gt (11), 3) := F_CM_track_0.2.2.2.2.2.2.2.2.2.2.2.2.2.2.1
theorem d_CM_track_32 : decode prog_1_method_40_code 32 = .ok (.iload 4, 2) := F_CM_track_0.2.2.2.2.2.2.2.2.2.2.2.2.2.2.2.1
theorem d_CM_track_34 : decode prog_1_method_40_code 34 = .ok (.invokestatic 154, 3) := F_CM_track_0.2.2.2.2.2.2.2.2.2.2.2.2.2.2.2.2.1
theorem d_CM_track_37 : decode prog_1_method_40_code 37 = .ok (.ifCond .ne (7), 3) := F_CM_track_0.2.2.2.2.2.2.2.2.2.2.2.2.2.2.2.2.2.1
theorem d_CM_track_40 : decode prog_1_method_40_code 40 = .ok (.ldc2_w 270, 3) := F_CM_track_0.2.2.2.2.2.2.2.2.2.2.2.2.2.2.2.2.2.2.1
theorem d_CM_track_43 : decode prog_1_method_40_code 43 = .ok (.lreturn, 1) := F_CM_track_0.2.2.2.2.2.2.2.2.2.2.2.2.2.2.2.2.2.2.2.1
theorem d_CM_track_44 : decode prog_1_method_40_code 44 = .ok (.aload_n 0, 1) := F_CM_track_0.2.2.2.2.2.2.2.2.2.2.2.2.2.2.2.2.2.2.2.2.1
theorem d_CM_track_45 : decode prog_1_method_40_code 45 = .ok (.iload_n 1, 1) := F_CM_track_0.2.2.2.2.2.2.2.2.2.2.2.2.2.2.2.2.2.2.2.2.2.1
theorem d_CM_track_46 : decode prog_1_method_40_code 46 = .ok (.iload_n 2, 1) := F_CM_track_0.2.2.2.2.2.2.2.2.2.2.2.2.2.2.2.2.2.2.2.2.2.2.1
theorem d_CM_track_47 : decode prog_1_method_40_code 47 = .ok (.iload_n 3, 1) := F_CM_track_0.2.2.2.2.2.2.2.2.2.2.2.2.2.2.2.2.2.2.2.2.2.2.2.1
theorem d_CM_track_48 : decode prog_1_method_40_code 48 = .ok (.invokevirtual 355, 3) := F_CM_track_0.2.2.2.2.2.2.2.2.2.2.2.2.2.2.2.2.2.2.2.2.2.2.2.2.1
theorem d_CM_track_51 : decode prog_1_method_40_code 51 = .ok (.ifCond .eq (13), 3) := F_CM_track_0.2.2.2.2.2.2.2.2.2.2.2.2.2.2.2.2.2.2.2.2.2.2.2.2.2.1
theorem d_CM_track_54 : decode prog_1_method_40_code 54 = .ok (.aload_n 0, 1) := F_CM_track_0.2.2.2.2.2.2.2.2.2.2.2.2.2.2.2.2.2.2.2.2.2.2.2.2.2.2.1
theorem d_CM_track_55 : decode prog_1_method_40_code 55 = .ok (.getfield 81, 3) := F_CM_track_0.2.2.2.2.2.2.2.2.2.2.2.2.2.2.2.2.2.2.2.2.2.2.2.2.2.2.2.1
theorem d_CM_track_58 : decode prog_1_method_40_code 58 = .ok (.iload 4, 2) := F_CM_track_0.2.2.2.2.2.2.2.2.2.2.2.2.2.2.2.2.2.2.2.2.2.2.2.2.2.2.2.2.1
theorem d_CM_track_60 : decode prog_1_method_40_code 60 = .ok (.laload, 1) := F_CM_track_0.2.2.2.2.2.2.2.2.2.2.2.2.2.2.2.2.2.2.2.2.2.2.2.2.2.2.2.2.2.1
theorem d_CM_track_61 : decode prog_1_method_40_code 61 = .ok (.goto (6), 3) := F_CM_track_0.2.2.2.2.2.2.2.2.2.2.2.2.2.2.2.2.2.2.2.2.2.2.2.2.2.2.2.2.2.2.1
theorem d_CM_track_64 : decode prog_1_method_40_code 64 = .ok (.ldc2_w 275, 3) := F_CM_track_0.2.2.2.2.2.2.2.2.2.2.2.2.2.2.2.2.2.2.2.2.2.2.2.2.2.2.2.2.2.2.2.1
theorem F_CM_track_67 : Jvm.Free.DS.Facts prog_1_method_40_code 67 [(.lreturn, 1)] := Jvm.Free.DS.facts 67 _ (by decide +kernel) (by decide +kernel)
theorem d_CM_track_67 : decode prog_1_method_40_code 67 = .ok (.lreturn, 1) := F_CM_track_67.1
theorem F_CM_follow_0 : Jvm.Free.DS.Facts prog_1_method_97_code 0 [(.aload_n 0, 1), (.getfield 12, 3), (.getfield 163, 3), (.iload_n 2, 1), (.aaload, 1), (.aload_n 0, 1), (.getfield 81, 3), (.invokestatic 209, 3), (.iconst 0, 1), (.istore 4, 2), (.iload 4, 2), (.iload_n 3, 1), (.if_icmp .ge (19), 3), (.aload_n 0, 1), (.iload_n 1, 1), (.invokevirtual 358, 3), (.ifCond .ne (5), 3), (.iconst 0, 1), (.ireturn, 1), (.iinc 4 (1), 3), (.goto (-19), 3), (.iconst 1, 1), (.ireturn, 1)] := Jvm.Free.DS.facts 0 _ (by decide +kernel) (by decide +kernel)
theorem d_CM_follow_0 : decode prog_1_method_97_code 0 = .ok (.aload_n 0, 1) := F_CM_follow_0.1
theorem d_CM_follow_1 : decode prog_1_method_97_code 1 = .ok (.getfield 12, 3) := F_CM_follow_0.2.1
theorem d_CM_follow_4 : decode prog_1_method_97_code 4 = .ok (.getfield 163, 3) := F_CM_follow_0.2.2.1
theorem d_CM_follow_7 : decode prog_1_method_97_code 7 = .ok (.iload_n 2, 1) := F_CM_follow_0.2.2.2.1
theorem d_CM_follow_8 : decode prog_1_method_97_code 8 = .ok (.aaload, 1) := F_CM_follow_0.2.2.2.2.1
theorem d_CM_follow_9 : decode prog_1_method_97_code 9 = .ok (.aload_n 0, 1) := F_CM_follow_0.2.2.2.2.2.1
theorem d_CM_follow_10 : decode prog_1_method_97_code 10 = .ok (.getfield 81, 3) := F_CM_follow_0.2.2.2.2.2.2.1
theorem d_CM_follow_13 : decode prog_1_method_97_code 13 = .ok (.invokestatic 209, 3) := F_CM_follow_0.2.2.2.2.2.2.2.1
theorem d_CM_follow_16 : decode prog_1_method_97_code 16 = .ok (.iconst 0, 1) := F_CM_follow_0.2.2.2.2.2.2.2.2.1
theorem d_CM_follow_17 : decode prog_1_method_97_code 17 = .ok (.istore 4, 2) := F_CM_follow_0.2.2.2.2.2.2.2.2.2.1
theorem d_CM_follow_19 : decode prog_1_method_97_code 19 = .ok (.iload 4, 2) := F_CM_follow_0.2.2.2.2.2.2.2.2.2.2.1
theorem d_CM_follow_21 : decode prog_1_method_97_code 21 = .ok (.iload_n 3, 1) := F_CM_follow_0.2.2.2.2.2.2.2.2.2.2.2.1
theorem d_CM_follow_22 : decode prog_1_method_97_code 22 = .ok (.if_icmp .ge (19), 3) := F_CM_follow_0.2.2.2.2.2.2.2.2.2.2.2.2.1
theorem d_CM_follow_25 : decode prog_1_method_97_code 25 = .ok (.aload_n 0, 1) := F_CM_follow_0.2.2.2.2.2.2.2.2.2.2.2.2.2.1
theorem d_CM_follow_26 : decode prog_1_method_97_code 26 = .ok (.iload_n 1, 1) := F_CM_follow_0.2.2.2.2.2.2.2.2.2.2.2.2.2.2.1
theorem d_CM_follow_27 : decode prog_1_method_97_code 27 = .ok (.invokevirtual 358, 3) := F_CM_follow_0.2.2.2.2.2.2.2.2.2.2.2.2.2.2.2.1
theorem d_CM_follow_30 : decode prog_1_method_97_code 30 = .ok (.ifCond .ne (5), 3) := F_CM_follow_0.2.2.2.2.2.2.2.2.2.2.2.2.2.2.2.2.1
theorem d_CM_follow_33 : decode prog_1_method_97_code 33 = .ok (.iconst 0, 1) := F_CM_follow_0.2.2.2.2.2.2.2.2.2.2.2.2.2.2.2.2.2.1
theorem d_CM_follow_34 : decode prog_1_method_97_code 34 = .ok (.ireturn, 1) := F_CM_follow_0.2.2.2.2.2.2.2.2.2.2.2.2.2.2.2.2.2.2.1
theorem d_CM_follow_35 : decode prog_1_method_97_code 35 = .ok (.iinc 4 (1), 3) := F_CM_follow_0.2.2.2.2.2.2.2.2.2.2.2.2.2.2.2.2.2.2.2.1
theorem d_CM_follow_38 : decode prog_1_method_97_code 38 = .ok (.goto (-19), 3) := F_CM_follow_0.2.2.2.2.2.2.2.2.2.2.2.2.2.2.2.2.2.2.2.2.1
theorem d_CM_follow_41 : decode prog_1_method_97_code 41 = .ok (.iconst 1, 1) := F_CM_follow_0.2.2.2.2.2.2.2.2.2.2.2.2.2.2.2.2.2.2.2.2.2.1
theorem d_CM_follow_42 : decode prog_1_method_97_code 42 = .ok (.ireturn, 1) := F_CM_follow_0.2.2.2.2.2.2.2.2.2.2.2.2.2.2.2.2.2.2.2.2.2.2.1
theorem F_CM_stepOn_0 : Jvm.Free.DS.Facts prog_1_method_98_code 0 [(.aload_n 0, 1), (.getfield 12, 3), (.getfield 157, 3), (.iload_n 1, 1), (.aaload, 1), (.aload_n 0, 1), (.getfield 81, 3), (.aload_n 0, 1), (.getfield 78, 3), (.invokestatic 248, 3), (.aload_n 0, 1), (.getfield 78, 3), (.aload_n 0, 1), (.getfield 81, 3), (.invokestatic 209, 3), (.aload_n 0, 1), (.getfield 81, 3), (.invokestatic 251, 3), (.ireturn, 1)] := Jvm.Free.DS.facts 0 _ (by decide +kernel) (by decide +kernel)
theorem d_CM_stepOn_0 : decode prog_1_method_98_code 0 = .ok (.aload_n 0, 1) := F_CM_stepOn_0.1
theorem d_CM_stepOn_1 : decode prog_1_method_98_code 1 = .ok (.getfield 12, 3) := F_CM_stepOn_0.2.1
theorem d_CM_stepOn_4 : decode prog_1_method_98_code 4 = .ok (.getfield 157, 3) := F_CM_stepOn_0.2.2.1
theorem d_CM_stepOn_7 : decode prog_1_method_98_code 7 = .ok (.iload_n 1, 1) := F_CM_stepOn_0.2.2.2.1
theorem d_CM_stepOn_8 : decode prog_1_method_98_code 8 = .ok (.aaload, 1) := F_CM_stepOn_0.2.2.2.2.1
theorem d_CM_stepOn_9 : decode prog_1_method_98_code 9 = .ok (.aload_n 0, 1) := F_CM_stepOn_0.2.2.2.2.2.1
theorem d_CM_stepOn_10 : decode prog_1_method_98_code 10 = .ok (.getfield 81, 3) := F_CM_stepOn_0.2.2.2.2.2.2.1
theorem d_CM_stepOn_13 : decode prog_1_method_98_code 13 = .ok (.aload_n 0, 1) := F_CM_stepOn_0.2.2.2.2.2.2.2.1
theorem d_CM_stepOn_14 : decode prog_1_method_98_code 14 = .ok (.getfield 78, 3) := F_CM_stepOn_0.2.2.2.2.2.2.2.2.1
theorem d_CM_stepOn_17 : decode prog_1_method_98_code 17 = .ok (.invokestatic 248, 3) := F_CM_stepOn_0.2.2.2.2.2.2.2.2.2.1
theorem d_CM_stepOn_20 : decode prog_1_method_98_code 20 = .ok (.aload_n 0, 1) := F_CM_stepOn_0.2.2.2.2.2.2.2.2.2.2.1
theorem d_CM_stepOn_21 : decode prog_1_method_98_code 21 = .ok (.getfield 78, 3) := F_CM_stepOn_0.2.2.2.2.2.2.2.2.2.2.2.1
theorem d_CM_stepOn_24 : decode prog_1_method_98_code 24 = .ok (.aload_n 0, 1) := F_CM_stepOn_0.2.2.2.2.2.2.2.2.2.2.2.2.1
theorem d_CM_stepOn_25 : decode prog_1_method_98_code 25 = .ok (.getfield 81, 3) := F_CM_stepOn_0.2.2.2.2.2.2.2.2.2.2.2.2.2.1
theorem d_CM_stepOn_28 : decode prog_1_method_98_code 28 = .ok (.invokestatic 209, 3) := F_CM_stepOn_0.2.2.2.2.2.2.2.2.2.2.2.2.2.2.1
theorem d_CM_stepOn_31 : decode prog_1_method_98_code 31 = .ok (.aload_n 0, 1) := F_CM_stepOn_0.2.2.2.2.2.2.2.2.2.2.2.2.2.2.2.1
theorem d_CM_stepOn_32 : decode prog_1_method_98_code 32 = .ok (.getfield 81, 3) := F_CM_stepOn_0.2.2.2.2.2.2.2.2.2.2.2.2.2.2.2.2.1
theorem d_CM_stepOn_35 : decode prog_1_method_98_code 35 = .ok (.invokestatic 251, 3) := F_CM_stepOn_0.2.2.2.2.2.2.2.2.2.2.2.2.2.2.2.2.2.1
theorem d_CM_stepOn_38 : decode prog_1_method_98_code 38 = .ok (.ireturn, 1) := F_CM_stepOn_0.2.2.2.2.2.2.2.2.2.2.2.2.2.2.2.2.2.2.1
theorem F_CM_cycle_0 : Jvm.Free.DS.Facts prog_1_method_41_code 0 [(.aload_n 0, 1), (.getfield 12, 3), (.iload_n 1, 1), (.invokevirtual 151, 3), (.ifCond .eq (14), 3), (.aload_n 0, 1), (.getfield 12, 3), (.iload_n 2, 1), (.invokevirtual 160, 3), (.ifCond .ne (5), 3), (.iconst (-1), 1), (.ireturn, 1), (.aload_n 0, 1), (.getfield 12, 3), (.getfield 163, 3), (.iload_n 2, 1), (.aaload, 1), (.aload_n 0, 1), (.getfield 81, 3), (.invokestatic 209, 3), (.iconst 1, 1), (.istore_n 3, 1), (.iload_n 3, 1), (.bipush (20), 2), (.if_icmp .gt (41), 3), (.aload_n 0, 1), (.iload_n 1, 1), (.invokevirtual 358, 3), (.ifCond .ne (6), 3), (.bipush (-2), 2), (.ireturn, 1), (.aload_n 0, 1)] := Jvm.Free.DS.facts 0 _ (by decide +kernel) (by decide +kernel)
theorem d_CM_cycle_0 : decode prog_1_method_41_code 0 = .ok (.aload_n 0, 1) := F_CM_cycle_0.1
theorem d_CM_cycle_1 : decode prog_1_method_41_code 1 = .ok (.getfield 12, 3) := F_CM_cycle_0.2.1
theorem d_CM_cycle_4 : decode prog_1_method_41_code 4 = .ok (.iload_n 1, 1) := F_CM_cycle_0.2.2.1
theorem d_CM_cycle_5 : decode prog_1_method_41_code 5 = .ok (.invokevirtual 151, 3) := F_CM_cycle_0.2.2.2.1
theorem d_CM_cycle_8 : decode prog_1_method_41_code 8 = .ok (.ifCond .eq (14), 3) := F_CM_cycle_0.2.2.2.2.1
theorem d_CM_cycle_11 : decode prog_1_method_41_code 11 = .ok (.aload_n 0, 1) := F_CM_cycle_0.2.2.2.2.2.1
theorem d_CM_cycle_12 : decode prog_1_method_41_code 12 = .ok (.getfield 12, 3) := F_CM_cycle_0.2.2.2.2.2.2.1
theorem d_CM_cycle_15 : decode prog_1_method_41_code 15 = .ok (.iload_n 2, 1) := F_CM_cycle_0.2.2.2.2.2.2.2.1
theorem d_CM_cycle_16 : decode prog_1_method_41_code 16 = .ok (.invokevirtual 160, 3) := F_CM_cycle_0.2.2.2.2.2.2.2.2.1
theorem d_CM_cycle_19 : decode prog_1_method_41_code 19 = .ok (.ifCond .ne (5), 3) := F_CM_cycle_0.2.2.2.2.2.2.2.2.2.1
theorem d_CM_cycle_22 : decode prog_1_method_41_code 22 = .ok (.iconst (-1), 1) := F_CM_cycle_0.2.2.2.2.2.2.2.2.2.2.1
theorem d_CM_cycle_23 : decode prog_1_method_41_code 23 = .ok (.ireturn, 1) := F_CM_cycle_0.2.2.2.2.2.2.2.2.2.2.2.1
theorem d_CM_cycle_24 : decode prog_1_method_41_code 24 = .ok (.aload_n 0, 1) := F_CM_cycle_0.2.2.2.2.2.2.2.2.2.2.2.2.1
theorem d_CM_cycle_25 : decode prog_1_method_41_code 25 = .ok (.getfield 12, 3) := F_CM_cycle_0.2.2.2.2.2.2.2.2.2.2.2.2.2.1
theorem d_CM_cycle_28 : decode prog_1_method_41_code 28 = .ok (.getfield 163, 3) := F_CM_cycle_0.2.2.2.2.2.2.2.2.2.2.2.2.2.2.1
theorem d_CM_cycle_31 : decode prog_1_method_41_code 31 = .ok (.iload_n 2, 1) := F_CM_cycle_0.2.2.2.2.2.2.2.2.2.2.2.2.2.2.2.1
theorem d_CM_cycle_32 : decode prog_1_method_41_code 32 = .ok (.aaload, 1) := F_CM_cycle_0.2.2.2.2.2.2.2.2.2.2.2.2.2.2.2.2.1
theorem d_CM_cycle_33 : decode prog_1_method_41_code 33 = .ok (.aload_n 0, 1) := F_CM_cycle_0.2.2.2.2.2.2.2.2.2.2.2.2.2.2.2.2.2.1
theorem d_CM_cycle_34 : decode prog_1_method_41_code 34 = .ok (.getfield 81, 3) := F_CM_cycle_0.2.2.2.2.2.2.2.2.2.2.2.2.2.2.2.2.2.2.1
theorem d_CM_cycle_37 : decode prog_1_method_41_code 37 = .ok (.invokestatic 209, 3) := F_CM_cycle_0.2.2.2.2.2.2.2.2.2.2.2.2.2.2.2.2.2.2.2.1
theorem d_CM_cycle_40 : decode prog_1_method_41_code 40 = .ok (.iconst 1, 1) := F_CM_cycle_0.2.2.2.2.2.2.2.2.2.2.2.2.2.2.2.2.2.2.2.2.1
theorem d_CM_cycle_41 : decode prog_1_method_41_code 41 = .ok (.istore_n 3, 1) := F_CM_cycle_0.2.2.2.2.2.2.2.2.2.2.2.2.2.2.2.2.2.2.2.2.2.1
theorem d_CM_cycle_42 : decode prog_1_method_41_code 42 = .ok (.iload_n 3, 1) := F_CM_cycle_0.2.2.2.2.2.2.2.2.2.2.2.2.2.2.2.2.2.2.2.2.2.2.1
theorem d_CM_cycle_43 : decode prog_1_method_41_code 43 = .ok (.bipush (20), 2) := F_CM_cycle_0.2.2.2.2.2.2.2.2.2.2.2.2.2.2.2.2.2.2.2.2.2.2.2.1
theorem d_CM_cycle_45 : decode prog_1_method_41_code 45 = .ok (.if_icmp .gt (41), 3) := F_CM_cycle_0.2.2.2.2.2.2.2.2.2.2.2.2.2.2.2.2.2.2.2.2.2.2.2.2.1
theorem d_CM_cycle_48 : decode prog_1_method_41_code 48 = .ok (.aload_n 0, 1) := F_CM_cycle_0.2.2.2.2.2.2.2.2.2.2.2.2.2.2.2.2.2.2.2.2.2.2.2.2.2.1
theorem d_CM_cycle_49 : decode prog_1_method_41_code 49 = .ok (.iload_n 1, 1) := F_CM_cycle_0.2.2.2.2.2.2.2.2.2.2.2.2.2.2.2.2.2.2.2.2.2.2.2.2.2.2.1
theorem d_CM_cycle_50 : decode prog_1_method_41_code 50 = .ok (.invokevirtual 358, 3) := F_CM_cycle_0.2.2.2.2.2.2.2.2.2.2.2.2.2.2.2.2.2.2.2.2.2.2.2.2.2.2.2.1
theorem d_CM_cycle_53 : decode prog_1_method_41_code 53 = .ok (.ifCond .ne (6), 3) := F_CM_cycle_0.2.2.2.2.2.2.2.2.2.2.2.2.2.2.2.2.2.2.2.2.2.2.2.2.2.2.2.2.1
theorem d_CM_cycle_56 : decode prog_1_method_41_code 56 = .ok (.bipush (-2), 2) := F_CM_cycle_0.2.2.2.2.2.2.2.2.2.2.2.2.2.2.2.2.2.2.2.2.2.2.2.2.2.2.2.2.2.1
theorem d_CM_cycle_58 : decode prog_1_method_41_code 58 = .ok (.ireturn, 1) := F_CM_cycle_0.2.2.2.2.2.2.2.2.2.2.2.2.2.2.2.2.2.2.2.2.2.2.2.2.2.2.2.2.2.2.1
theorem d_CM_cycle_59 : decode prog_1_method_41_code 59 = .ok (.aload_n 0, 1) := F_CM_cycle_0.2.2.2.2.2.2.2.2.2.2.2.2.2.2.2.2.2.2.2.2.2.2.2.2.2.2.2.2.2.2.2.1
theorem F_CM_cycle_60 : Jvm.Free.DS.Facts prog_1_method_41_code 60 [(.getfield 81, 3), (.aload_n 0, 1), (.getfield 12, 3), (.getfield 163, 3), (.iload_n 2, 1), (.aaload, 1), (.invokestatic 306, 3), (.ifCond .eq (5), 3), (.iload_n 3, 1), (.ireturn, 1), (.iinc 3 (1), 3), (.goto (-41), 3), (.bipush (-2), 2), (.ireturn, 1)] := Jvm.Free.DS.facts 60 _ (by decide +kernel) (by decide +kernel)
theorem d_CM_cycle_60 : decode prog_1_method_41_code 60 = .ok (.getfield 81, 3) := F_CM_cycle_60.1
theorem d_CM_cycle_63 : decode prog_1_method_41_code 63 = .ok (.aload_n 0, 1) := F_CM_cycle_60.2.1
theorem d_CM_cycle_64 : decode prog_1_method_41_code 64 = .ok (.getfield 12, 3) := F_CM_cycle_60.2.2.1
theorem d_CM_cycle_67 : decode prog_1_method_41_code 67 = .ok (.getfield 163, 3) := F_CM_cycle_60.2.2.2.1
theorem d_CM_cycle_70 : decode prog_1_method_41_code 70 = .ok (.iload_n 2, 1) := F_CM_cycle_60.2.2.2.2.1
theorem d_CM_cycle_71 : decode prog_1_method_41_code 71 = .ok (.aaload, 1) := F_CM_cycle_60.2.2.2.2.2.1
theorem d_CM_cycle_72 : decode prog_1_method_41_code 72 = .ok (.invokestatic 306, 3) := F_CM_cycle_60.2.2.2.2.2.2.1
theorem d_CM_cycle_75 : decode prog_1_method_41_code 75 = .ok (.ifCond .eq (5), 3) := F_CM_cycle_60.2.2.2.2.2.2.2.1
theorem d_CM_cycle_78 : decode prog_1_method_41_code 78 = .ok (.iload_n 3, 1) := F_CM_cycle_60.2.2.2.2.2.2.2.2.1
theorem d_CM_cycle_79 : decode prog_1_method_41_code 79 = .ok (.ireturn, 1) := F_CM_cycle_60.2.2.2.2.2.2.2.2.2.1
theorem d_CM_cycle_80 : decode prog_1_method_41_code 80 = .ok (.iinc 3 (1), 3) := F_CM_cycle_60.2.2.2.2.2.2.2.2.2.2.1
theorem d_CM_cycle_83 : decode prog_1_method_41_code 83 = .ok (.goto (-41), 3) := F_CM_cycle_60.2.2.2.2.2.2.2.2.2.2.2.1
theorem d_CM_cycle_86 : decode prog_1_method_41_code 86 = .ok (.bipush (-2), 2) := F_CM_cycle_60.2.2.2.2.2.2.2.2.2.2.2.2.1
theorem d_CM_cycle_88 : decode prog_1_method_41_code 88 = .ok (.ireturn, 1) := F_CM_cycle_60.2.2.2.2.2.2.2.2.2.2.2.2.2.1
theorem F_CM_whole_0 : Jvm.Free.DS.Facts prog_1_method_42_code 0 [(.aload_n 0, 1), (.getfield 12, 3), (.iload_n 1, 1), (.invokevirtual 151, 3), (.ifCond .eq (13), 3), (.iload_n 2, 1), (.ifCond .lt (9), 3), (.iload_n 2, 1), (.bipush (9), 2), (.if_icmp .le (5), 3), (.iconst (-1), 1), (.ireturn, 1), (.iconst 0, 1), (.istore_n 3, 1), (.iload_n 2, 1), (.ineg, 1), (.istore 4, 2), (.iload 4, 2), (.iload_n 2, 1), (.if_icmp .gt (73), 3), (.iload_n 2, 1), (.ineg, 1), (.istore 5, 2), (.iload 5, 2), (.iload_n 2, 1), (.if_icmp .gt (57), 3), (.iload 4, 2), (.i2l, 1), (.iload 5, 2), (.i2l, 1), (.lconst 1, 1), (.aload_n 0, 1)] := Jvm.Free.DS.facts 0 _ (by decide +kernel) (by decide +kernel)
theorem d_CM_whole_0 : decode prog_1_method_42_code 0 = .ok (.aload_n 0, 1) := F_CM_whole_0.1
theorem d_CM_whole_1 : decode prog_1_method_42_code 1 = .ok (.getfield 12, 3) := F_CM_whole_0.2.1
theorem d_CM_whole_4 : decode prog_1_method_42_code 4 = .ok (.iload_n 1, 1) := F_CM_whole_0.2.2.1
theorem d_CM_whole_5 : decode prog_1_method_42_code 5 = .ok (.invokevirtual 151, 3) := F_CM_whole_0.2.2.2.1
theorem d_CM_whole_8 : decode prog_1_method_42_code 8 = .ok (.ifCond .eq (13), 3) := F_CM_whole_0.2.2.2.2.1
theorem d_CM_whole_11 : decode prog_1_method_42_code 11 = .ok (.iload_n 2, 1) := F_CM_whole_0.2.2.2.2.2.1
theorem d_CM_whole_12 : decode prog_1_method_42_code 12 = .ok (.ifCond .lt (9), 3) := F_CM_whole_0.2.2.2.2.2.2.1
theorem d_CM_whole_15 : decode prog_1_method_42_code 15 = .ok (.iload_n 2, 1) := F_CM_whole_0.2.2.2.2.2.2.2.1
theorem d_CM_whole_16 : decode prog_1_method_42_code 16 = .ok (.bipush (9), 2) := F_CM_whole_0.2.2.2.2.2.2.2.2.1
theorem d_CM_whole_18 : decode prog_1_method_42_code 18 = .ok (.if_icmp .le (5), 3) := F_CM_whole_0.2.2.2.2.2.2.2.2.2.1
theorem d_CM_whole_21 : decode prog_1_method_42_code 21 = .ok (.iconst (-1), 1) := F_CM_whole_0.2.2.2.2.2.2.2.2.2.2.1
theorem d_CM_whole_22 : decode prog_1_method_42_code 22 = .ok (.ireturn, 1) := F_CM_whole_0.2.2.2.2.2.2.2.2.2.2.2.1
theorem d_CM_whole_23 : decode prog_1_method_42_code 23 = .ok (.iconst 0, 1) := F_CM_whole_0.2.2.2.2.2.2.2.2.2.2.2.2.1
theorem d_CM_whole_24 : decode prog_1_method_42_code 24 = .ok (.istore_n 3, 1) := F_CM_whole_0.2.2.2.2.2.2.2.2.2.2.2.2.2.1
theorem d_CM_whole_25 : decode prog_1_method_42_code 25 = .ok (.iload_n 2, 1) := F_CM_whole_0.2.2.2.2.2.2.2.2.2.2.2.2.2.2.1
theorem d_CM_whole_26 : decode prog_1_method_42_code 26 = .ok (.ineg, 1) := F_CM_whole_0.2.2.2.2.2.2.2.2.2.2.2.2.2.2.2.1
theorem d_CM_whole_27 : decode prog_1_method_42_code 27 = .ok (.istore 4, 2) := F_CM_whole_0.2.2.2.2.2.2.2.2.2.2.2.2.2.2.2.2.1
theorem d_CM_whole_29 : decode prog_1_method_42_code 29 = .ok (.iload 4, 2) := F_CM_whole_0.2.2.2.2.2.2.2.2.2.2.2.2.2.2.2.2.2.1
theorem d_CM_whole_31 : decode prog_1_method_42_code 31 = .ok (.iload_n 2, 1) := F_CM_whole_0.2.2.2.2.2.2.2.2.2.2.2.2.2.2.2.2.2.2.1
theorem d_CM_whole_32 : decode prog_1_method_42_code 32 = .ok (.if_icmp .gt (73), 3) := F_CM_whole_0.2.2.2.2.2.2.2.2.2.2.2.2.2.2.2.2.2.2.2.1
theorem d_CM_whole_35 : decode prog_1_method_42_code 35 = .ok (.iload_n 2, 1) := F_CM_whole_0.2.2.2.2.2.2.2.2.2.2.2.2.2.2.2.2.2.2.2.2.1
theorem d_CM_whole_36 : decode prog_1_method_42_code 36 = .ok (.ineg, 1) := F_CM_whole_0.2.2.2.2.2.2.2.2.2.2.2.2.2.2.2.2.2.2.2.2.2.1
theorem d_CM_whole_37 : decode prog_1_method_42_code 37 = .ok (.istore 5, 2) := F_CM_whole_0.2.2.2.2.2.2.2.2.2.2.2.2.2.2.2.2.2.2.2.2.2.2.1
theorem d_CM_whole_39 : decode prog_1_method_42_code 39 = .ok (.iload 5, 2) := F_CM_whole_0.2.2.2.2.2.2.2.2.2.2.2.2.2.2.2.2.2.2.2.2.2.2.2.1
theorem d_CM_whole_41 : decode prog_1_method_42_code 41 = .ok (.iload_n 2, 1) := F_CM_whole_0.2.2.2.2.2.2.2.2.2.2.2.2.2.2.2.2.2.2.2.2.2.2.2.2.1
theorem d_CM_whole_42 : decode prog_1_method_42_code 42 = .ok (.if_icmp .gt (57), 3) := F_CM_whole_0.2.2.2.2.2.2.2.2.2.2.2.2.2.2.2.2.2.2.2.2.2.2.2.2.2.1
theorem d_CM_whole_45 : decode prog_1_method_42_code 45 = .ok (.iload 4, 2) := F_CM_whole_0.2.2.2.2.2.2.2.2.2.2.2.2.2.2.2.2.2.2.2.2.2.2.2.2.2.2.1
theorem d_CM_whole_47 : decode prog_1_method_42_code 47 = .ok (.i2l, 1) := F_CM_whole_0.2.2.2.2.2.2.2.2.2.2.2.2.2.2.2.2.2.2.2.2.2.2.2.2.2.2.2.1
theorem d_CM_whole_48 : decode prog_1_method_42_code 48 = .ok (.iload 5, 2) := F_CM_whole_0.2.2.2.2.2.2.2.2.2.2.2.2.2.2.2.2.2.2.2.2.2.2.2.2.2.2.2.2.1
theorem d_CM_whole_50 : decode prog_1_method_42_code 50 = .ok (.i2l, 1) := F_CM_whole_0.2.2.2.2.2.2.2.2.2.2.2.2.2.2.2.2.2.2.2.2.2.2.2.2.2.2.2.2.2.1
theorem d_CM_whole_51 : decode prog_1_method_42_code 51 = .ok (.lconst 1, 1) := F_CM_whole_0.2.2.2.2.2.2.2.2.2.2.2.2.2.2.2.2.2.2.2.2.2.2.2.2.2.2.2.2.2.2.1
theorem d_CM_whole_52 : decode prog_1_method_42_code 52 = .ok (.aload_n 0, 1) := F_CM_whole_0.2.2.2.2.2.2.2.2.2.2.2.2.2.2.2.2.2.2.2.2.2.2.2.2.2.2.2.2.2.2.2.1
theorem F_CM_whole_53 : Jvm.Free.DS.Facts prog_1_method_42_code 53 [(.getfield 75, 3), (.invokestatic 238, 3), (.aload_n 0, 1), (.getfield 12, 3), (.getfield 157, 3), (.iload_n 1, 1), (.aaload, 1), (.aload_n 0, 1), (.getfield 75, 3), (.aload_n 0, 1), (.getfield 78, 3), (.invokestatic 248, 3), (.aload_n 0, 1), (.getfield 78, 3), (.iconst 2, 1), (.laload, 1), (.lconst 1, 1), (.lcmp, 1), (.ifCond .ne (6), 3), (.iinc 3 (1), 3), (.iinc 5 (1), 3), (.goto (-57), 3), (.iinc 4 (1), 3), (.goto (-73), 3), (.iload_n 3, 1), (.ireturn, 1)] := Jvm.Free.DS.facts 53 _ (by decide +kernel) (by decide +kernel)
theorem d_CM_whole_53 : decode prog_1_method_42_code 53 = .ok (.getfield 75, 3) := F_CM_whole_53.1
theorem d_CM_whole_56 : decode prog_1_method_42_code 56 = .ok (.invokestatic 238, 3) := F_CM_whole_53.2.1
theorem d_CM_whole_59 : decode prog_1_method_42_code 59 = .ok (.aload_n 0, 1) := F_CM_whole_53.2.2.1
theorem d_CM_whole_60 : decode prog_1_method_42_code 60 = .ok (.getfield 12, 3) := F_CM_whole_53.2.2.2.1
theorem d_CM_whole_63 : decode prog_1_method_42_code 63 = .ok (.getfield 157, 3) := F_CM_whole_53.2.2.2.2.1
theorem d_CM_whole_66 : decode prog_1_method_42_code 66 = .ok (.iload_n 1, 1) := F_CM_whole_53.2.2.2.2.2.1
theorem d_CM_whole_67 : decode prog_1_method_42_code 67 = .ok (.aaload, 1) := F_CM_whole_53.2.2.2.2.2.2.1
theorem d_CM_whole_68 : decode prog_1_method_42_code 68 = .ok (.aload_n 0, 1) := F_CM_whole_53.2.2.2.2.2.2.2.1
theorem d_CM_whole_69 : decode prog_1_method_42_code 69 = .ok (.getfield 75, 3) := F_CM_whole_53.2.2.2.2.2.2.2.2.1
theorem d_CM_whole_72 : decode prog_1_method_42_code 72 = .ok (.aload_n 0, 1) := F_CM_whole_53.2.2.2.2.2.2.2.2.2.1
theorem d_CM_whole_73 : decode prog_1_method_42_code 73 = .ok (.getfield 78, 3) := F_CM_whole_53.2.2.2.2.2.2.2.2.2.2.1
theorem d_CM_whole_76 : decode prog_1_method_42_code 76 = .ok (.invokestatic 248, 3) := F_CM_whole_53.2.2.2.2.2.2.2.2.2.2.2.1
theorem d_CM_whole_79 : decode prog_1_method_42_code 79 = .ok (.aload_n 0, 1) := F_CM_whole_53.2.2.2.2.2.2.2.2.2.2.2.2.1
theorem d_CM_whole_80 : decode prog_1_method_42_code 80 = .ok (.getfield 78, 3) := F_CM_whole_53.2.2.2.2.2.2.2.2.2.2.2.2.2.1
theorem d_CM_whole_83 : decode prog_1_method_42_code 83 = .ok (.iconst 2, 1) := F_CM_whole_53.2.2.2.2.2.2.2.2.2.2.2.2.2.2.1
theorem d_CM_whole_84 : decode prog_1_method_42_code 84 = .ok (.laload, 1) := F_CM_whole_53.2.2.2.2.2.2.2.2.2.2.2.2.2.2.2.1
theorem d_CM_whole_85 : decode prog_1_method_42_code 85 = .ok (.lconst 1, 1) := F_CM_whole_53.2.2.2.2.2.2.2.2.2.2.2.2.2.2.2.2.1
theorem d_CM_whole_86 : decode prog_1_method_42_code 86 = .ok (.lcmp, 1) := F_CM_whole_53.2.2.2.2.2.2.2.2.2.2.2.2.2.2.2.2.2.1
theorem d_CM_whole_87 : decode prog_1_method_42_code 87 = .ok (.ifCond .ne (6), 3) := F_CM_whole_53.2.2.2.2.2.2.2.2.2.2.2.2.2.2.2.2.2.2.1
theorem d_CM_whole_90 : decode prog_1_method_42_code 90 = .ok (.iinc 3 (1), 3) := F_CM_whole_53.2.2.2.2.2.2.2.2.2.2.2.2.2.2.2.2.2.2.2.1
theorem d_CM_whole_93 : decode prog_1_method_42_code 93 = .ok (.iinc 5 (1), 3) := F_CM_whole_53.2.2.2.2.2.2.2.2.2.2.2.2.2.2.2.2.2.2.2.2.1
theorem d_CM_whole_96 : decode prog_1_method_42_code 96 = .ok (.goto (-57), 3) := F_CM_whole_53.2.2.2.2.2.2.2.2.2.2.2.2.2.2.2.2.2.2.2.2.2.1
theorem d_CM_whole_99 : decode prog_1_method_42_code 99 = .ok (.iinc 4 (1), 3) := F_CM_whole_53.2.2.2.2.2.2.2.2.2.2.2.2.2.2.2.2.2.2.2.2.2.2.1
theorem d_CM_whole_102 : decode prog_1_method_42_code 102 = .ok (.goto (-73), 3) := F_CM_whole_53.2.2.2.2.2.2.2.2.2.2.2.2.2.2.2.2.2.2.2.2.2.2.2.1
theorem d_CM_whole_105 : decode prog_1_method_42_code 105 = .ok (.iload_n 3, 1) := F_CM_whole_53.2.2.2.2.2.2.2.2.2.2.2.2.2.2.2.2.2.2.2.2.2.2.2.2.1
theorem d_CM_whole_106 : decode prog_1_method_42_code 106 = .ok (.ireturn, 1) := F_CM_whole_53.2.2.2.2.2.2.2.2.2.2.2.2.2.2.2.2.2.2.2.2.2.2.2.2.2.1
theorem F_CM_inside_0 : Jvm.Free.DS.Facts prog_1_method_43_code 0 [(.aload_n 0, 1), (.getfield 12, 3), (.iload_n 1, 1), (.invokevirtual 127, 3), (.ifCond .eq (14), 3), (.aload_n 0, 1), (.getfield 12, 3), (.iload_n 2, 1), (.invokevirtual 160, 3), (.ifCond .ne (5), 3), (.iconst (-1), 1), (.ireturn, 1), (.aload_n 0, 1), (.getfield 12, 3), (.getfield 163, 3), (.iload_n 2, 1), (.aaload, 1), (.invokestatic 283, 3), (.ifCond .ne (6), 3), (.bipush (-2), 2), (.ireturn, 1), (.aload_n 0, 1), (.getfield 12, 3), (.getfield 142, 3), (.iload_n 1, 1), (.aaload, 1), (.astore_n 3, 1), (.aload_n 3, 1), (.invokevirtual 166, 3), (.invokestatic 170, 3), (.iconst 2, 1), (.if_icmp .ne (6), 3)] := Jvm.Free.DS.facts 0 _ (by decide +kernel) (by decide +kernel)
theorem d_CM_inside_0 : decode prog_1_method_43_code 0 = .ok (.aload_n 0, 1) := F_CM_inside_0.1
theorem d_CM_inside_1 : decode prog_1_method_43_code 1 = .ok (.getfield 12, 3) := F_CM_inside_0.2.1
theorem d_CM_inside_4 : decode prog_1_method_43_code 4 = .ok (.iload_n 1, 1) := F_CM_inside_0.2.2.1
theorem d_CM_inside_5 : decode prog_1_method_43_code 5 = .ok (.invokevirtual 127, 3) := F_CM_inside_0.2.2.2.1
theorem d_CM_inside_8 : decode prog_1_method_43_code 8 = .ok (.ifCond .eq (14), 3) := F_CM_inside_0.2.2.2.2.1
theorem d_CM_inside_11 : decode prog_1_method_43_code 11 = .ok (.aload_n 0, 1) := F_CM_inside_0.2.2.2.2.2.1
theorem d_CM_inside_12 : decode prog_1_method_43_code 12 = .ok (.getfield 12, 3) := F_CM_inside_0.2.2.2.2.2.2.1
theorem d_CM_inside_15 : decode prog_1_method_43_code 15 = .ok (.iload_n 2, 1) := F_CM_inside_0.2.2.2.2.2.2.2.1
theorem d_CM_inside_16 : decode prog_1_method_43_code 16 = .ok (.invokevirtual 160, 3) := F_CM_inside_0.2.2.2.2.2.2.2.2.1
theorem d_CM_inside_19 : decode prog_1_method_43_code 19 = .ok (.ifCond .ne (5), 3) := F_CM_inside_0.2.2.2.2.2.2.2.2.2.1
theorem d_CM_inside_22 : decode prog_1_method_43_code 22 = .ok (.iconst (-1), 1) := F_CM_inside_0.2.2.2.2.2.2.2.2.2.2.1
theorem d_CM_inside_23 : decode prog_1_method_43_code 23 = .ok (.ireturn, 1) := F_CM_inside_0.2.2.2.2.2.2.2.2.2.2.2.1
theorem d_CM_inside_24 : decode prog_1_method_43_code 24 = .ok (.aload_n 0, 1) := F_CM_inside_0.2.2.2.2.2.2.2.2.2.2.2.2.1
theorem d_CM_inside_25 : decode prog_1_method_43_code 25 = .ok (.getfield 12, 3) := F_CM_inside_0.2.2.2.2.2.2.2.2.2.2.2.2.2.1
theorem d_CM_inside_28 : decode prog_1_method_43_code 28 = .ok (.getfield 163, 3) := F_CM_inside_0.2.2.2.2.2.2.2.2.2.2.2.2.2.2.1
theorem d_CM_inside_31 : decode prog_1_method_43_code 31 = .ok (.iload_n 2, 1) := F_CM_inside_0.2.2.2.2.2.2.2.2.2.2.2.2.2.2.2.1
theorem d_CM_inside_32 : decode prog_1_method_43_code 32 = .ok (.aaload, 1) := F_CM_inside_0.2.2.2.2.2.2.2.2.2.2.2.2.2.2.2.2.1
theorem d_CM_inside_33 : decode prog_1_method_43_code 33 = .ok (.invokestatic 283, 3) := F_CM_inside_0.2.2.2.2.2.2.2.2.2.2.2.2.2.2.2.2.2.1
theorem d_CM_inside_36 : decode prog_1_method_43_code 36 = .ok (.ifCond .ne (6), 3) := F_CM_inside_0.2.2.2.2.2.2.2.2.2.2.2.2.2.2.2.2.2.2.1
theorem d_CM_inside_39 : decode prog_1_method_43_code 39 = .ok (.bipush (-2), 2) := F_CM_inside_0.2.2.2.2.2.2.2.2.2.2.2.2.2.2.2.2.2.2.2.1
theorem d_CM_inside_41 : decode prog_1_method_43_code 41 = .ok (.ireturn, 1) := F_CM_inside_0.2.2.2.2.2.2.2.2.2.2.2.2.2.2.2.2.2.2.2.2.1
theorem d_CM_inside_42 : decode prog_1_method_43_code 42 = .ok (.aload_n 0, 1) := F_CM_inside_0.2.2.2.2.2.2.2.2.2.2.2.2.2.2.2.2.2.2.2.2.2.1
theorem d_CM_inside_43 : decode prog_1_method_43_code 43 = .ok (.getfield 12, 3) := F_CM_inside_0.2.2.2.2.2.2.2.2.2.2.2.2.2.2.2.2.2.2.2.2.2.2.1
theorem d_CM_inside_46 : decode prog_1_method_43_code 46 = .ok (.getfield 142, 3) := F_CM_inside_0.2.2.2.2.2.2.2.2.2.2.2.2.2.2.2.2.2.2.2.2.2.2.2.1
theorem d_CM_inside_49 : decode prog_1_method_43_code 49 = .ok (.iload_n 1, 1) := F_CM_inside_0.2.2.2.2.2.2.2.2.2.2.2.2.2.2.2.2.2.2.2.2.2.2.2.2.1
theorem d_CM_inside_50 : decode prog_1_method_43_code 50 = .ok (.aaload, 1) := F_CM_inside_0.2.2.2.2.2.2.2.2.2.2.2.2.2.2.2.2.2.2.2.2.2.2.2.2.2.1
theorem d_CM_inside_51 : decode prog_1_method_43_code 51 = .ok (.astore_n 3, 1) := F_CM_inside_0.2.2.2.2.2.2.2.2.2.2.2.2.2.2.2.2.2.2.2.2.2.2.2.2.2.2.1
theorem d_CM_inside_52 : decode prog_1_method_43_code 52 = .ok (.aload_n 3, 1) := F_CM_inside_0.2.2.2.2.2.2.2.2.2.2.2.2.2.2.2.2.2.2.2.2.2.2.2.2.2.2.2.1
theorem d_CM_inside_53 : decode prog_1_method_43_code 53 = .ok (.invokevirtual 166, 3) := F_CM_inside_0.2.2.2.2.2.2.2.2.2.2.2.2.2.2.2.2.2.2.2.2.2.2.2.2.2.2.2.2.1
theorem d_CM_inside_56 : decode prog_1_method_43_code 56 = .ok (.invokestatic 170, 3) := F_CM_inside_0.2.2.2.2.2.2.2.2.2.2.2.2.2.2.2.2.2.2.2.2.2.2.2.2.2.2.2.2.2.1
theorem d_CM_inside_59 : decode prog_1_method_43_code 59 = .ok (.iconst 2, 1) := F_CM_inside_0.2.2.2.2.2.2.2.2.2.2.2.2.2.2.2.2.2.2.2.2.2.2.2.2.2.2.2.2.2.2.1
theorem d_CM_inside_60 : decode prog_1_method_43_code 60 = .ok (.if_icmp .ne (6), 3) := F_CM_inside_0.2.2.2.2.2.2.2.2.2.2.2.2.2.2.2.2.2.2.2.2.2.2.2.2.2.2.2.2.2.2.2.1
theorem F_CM_inside_63 : Jvm.Free.DS.Facts prog_1_method_43_code 63 [(.bipush (-3), 2), (.ireturn, 1), (.aload_n 3, 1), (.aload_n 0, 1), (.getfield 12, 3), (.getfield 163, 3), (.iload_n 2, 1), (.aaload, 1), (.invokevirtual 361, 3), (.ifCond .eq (5), 3), (.iconst 2, 1), (.ireturn, 1), (.aload_n 3, 1), (.aload_n 0, 1), (.getfield 12, 3), (.getfield 163, 3), (.iload_n 2, 1), (.aaload, 1), (.invokevirtual 364, 3), (.invokestatic 290, 3), (.ireturn, 1)] := Jvm.Free.DS.facts 63 _ (by decide +kernel) (by decide +kernel)
theorem d_CM_inside_63 : decode prog_1_method_43_code 63 = .ok (.bipush (-3), 2) := F_CM_inside_63.1
theorem d_CM_inside_65 : decode prog_1_method_43_code 65 = .ok (.ireturn, 1) := F_CM_inside_63.2.1
theorem d_CM_inside_66 : decode prog_1_method_43_code 66 = .ok (.aload_n 3, 1) := F_CM_inside_63.2.2.1
theorem d_CM_inside_67 : decode prog_1_method_43_code 67 = .ok (.aload_n 0, 1) := F_CM_inside_63.2.2.2.1
theorem d_CM_inside_68 : decode prog_1_method_43_code 68 = .ok (.getfield 12, 3) := F_CM_inside_63.2.2.2.2.1
theorem d_CM_inside_71 : decode prog_1_method_43_code 71 = .ok (.getfield 163, 3) := F_CM_inside_63.2.2.2.2.2.1
theorem d_CM_inside_74 : decode prog_1_method_43_code 74 = .ok (.iload_n 2, 1) := F_CM_inside_63.2.2.2.2.2.2.1
theorem d_CM_inside_75 : decode prog_1_method_43_code 75 = .ok (.aaload, 1) := F_CM_inside_63.2.2.2.2.2.2.2.1
theorem d_CM_inside_76 : decode prog_1_method_43_code 76 = .ok (.invokevirtual 361, 3) := F_CM_inside_63.2.2.2.2.2.2.2.2.1
theorem d_CM_inside_79 : decode prog_1_method_43_code 79 = .ok (.ifCond .eq (5), 3) := F_CM_inside_63.2.2.2.2.2.2.2.2.2.1
theorem d_CM_inside_82 : decode prog_1_method_43_code 82 = .ok (.iconst 2, 1) := F_CM_inside_63.2.2.2.2.2.2.2.2.2.2.1
theorem d_CM_inside_83 : decode prog_1_method_43_code 83 = .ok (.ireturn, 1) := F_CM_inside_63.2.2.2.2.2.2.2.2.2.2.2.1
theorem d_CM_inside_84 : decode prog_1_method_43_code 84 = .ok (.aload_n 3, 1) := F_CM_inside_63.2.2.2.2.2.2.2.2.2.2.2.2.1
theorem d_CM_inside_85 : decode prog_1_method_43_code 85 = .ok (.aload_n 0, 1) := F_CM_inside_63.2.2.2.2.2.2.2.2.2.2.2.2.2.1
theorem d_CM_inside_86 : decode prog_1_method_43_code 86 = .ok (.getfield 12, 3) := F_CM_inside_63.2.2.2.2.2.2.2.2.2.2.2.2.2.2.1
theorem d_CM_inside_89 : decode prog_1_method_43_code 89 = .ok (.getfield 163, 3) := F_CM_inside_63.2.2.2.2.2.2.2.2.2.2.2.2.2.2.2.1
theorem d_CM_inside_92 : decode prog_1_method_43_code 92 = .ok (.iload_n 2, 1) := F_CM_inside_63.2.2.2.2.2.2.2.2.2.2.2.2.2.2.2.2.1
theorem d_CM_inside_93 : decode prog_1_method_43_code 93 = .ok (.aaload, 1) := F_CM_inside_63.2.2.2.2.2.2.2.2.2.2.2.2.2.2.2.2.2.1
theorem d_CM_inside_94 : decode prog_1_method_43_code 94 = .ok (.invokevirtual 364, 3) := F_CM_inside_63.2.2.2.2.2.2.2.2.2.2.2.2.2.2.2.2.2.2.1
theorem d_CM_inside_97 : decode prog_1_method_43_code 97 = .ok (.invokestatic 290, 3) := F_CM_inside_63.2.2.2.2.2.2.2.2.2.2.2.2.2.2.2.2.2.2.2.1
theorem d_CM_inside_100 : decode prog_1_method_43_code 100 = .ok (.ireturn, 1) := F_CM_inside_63.2.2.2.2.2.2.2.2.2.2.2.2.2.2.2.2.2.2.2.2.1
theorem F_Quad_hasOnSide_0 : Jvm.Free.DS.Facts prog_7_method_9_code 0 [(.iconst 0, 1), (.istore_n 2, 1), (.iload_n 2, 1), (.iconst 4, 1), (.if_icmp .ge (80), 3), (.aload_n 0, 1), (.getfield 11, 3), (.iload_n 2, 1), (.aaload, 1), (.astore_n 3, 1), (.aload_n 0, 1), (.getfield 11, 3), (.iload_n 2, 1), (.iconst 1, 1), (.iadd, 1), (.iconst 3, 1), (.iand, 1), (.aaload, 1), (.astore 4, 2), (.aload_n 3, 1), (.aload 4, 2), (.aload_n 1, 1), (.invokestatic 16, 3), (.lconst 0, 1), (.lcmp, 1), (.ifCond .ne (43), 3), (.aload_n 3, 1), (.iconst 0, 1), (.laload, 1), (.aload 4, 2), (.iconst 0, 1), (.laload, 1)] := Jvm.Free.DS.facts 0 _ (by decide +kernel) (by decide +kernel)
theorem d_Quad_hasOnSide_0 : decode prog_7_method_9_code 0 = .ok (.iconst 0, 1) := F_Quad_hasOnSide_0.1
theorem d_Quad_hasOnSide_1 : decode prog_7_method_9_code 1 = .ok (.istore_n 2, 1) := F_Quad_hasOnSide_0.2.1
theorem d_Quad_hasOnSide_2 : decode prog_7_method_9_code 2 = .ok (.iload_n 2, 1) := F_Quad_hasOnSide_0.2.2.1
theorem d_Quad_hasOnSide_3 : decode prog_7_method_9_code 3 = .ok (.iconst 4, 1) := F_Quad_hasOnSide_0.2.2.2.1
theorem d_Quad_hasOnSide_4 : decode prog_7_method_9_code 4 = .ok (.if_icmp .ge (80), 3) := F_Quad_hasOnSide_0.2.2.2.2.1
theorem d_Quad_hasOnSide_7 : decode prog_7_method_9_code 7 = .ok (.aload_n 0, 1) := F_Quad_hasOnSide_0.2.2.2.2.2.1
theorem d_Quad_hasOnSide_8 : decode prog_7_method_9_code 8 = .ok (.getfield 11, 3) := F_Quad_hasOnSide_0.2.2.2.2.2.2.1
theorem d_Quad_hasOnSide_11 : decode prog_7_method_9_code 11 = .ok (.iload_n 2, 1) := F_Quad_hasOnSide_0.2.2.2.2.2.2.2.1
theorem d_Quad_hasOnSide_12 : decode prog_7_method_9_code 12 = .ok (.aaload, 1) := F_Quad_hasOnSide_0.2.2.2.2.2.2.2.2.1
theorem d_Quad_hasOnSide_13 : decode prog_7_method_9_code 13 = .ok (.astore_n 3, 1) := F_Quad_hasOnSide_0.2.2.2.2.2.2.2.2.2.1
theorem d_Quad_hasOnSide_14 : decode prog_7_method_9_code 14 = .ok (.aload_n 0, 1) := F_Quad_hasOnSide_0.2.2.2.2.2.2.2.2.2.2.1
theorem d_Quad_hasOnSide_15 : decode prog_7_method_9_code 15 = .ok (.getfield 11, 3) := F_Quad_hasOnSide_0.2.2.2.2.2.2.2.2.2.2.2.1
theorem d_Quad_hasOnSide_18 : decode prog_7_method_9_code 18 = .ok (.iload_n 2, 1) := F_Quad_hasOnSide_0.2.2.2.2.2.2.2.2.2.2.2.2.1
theorem d_Quad_hasOnSide_19 : decode prog_7_method_9_code 19 = .ok (.iconst 1, 1) := F_Quad_hasOnSide_0.2.2.2.2.2.2.2.2.2.2.2.2.2.1
theorem d_Quad_hasOnSide_20 : decode prog_7_method_9_code 20 = .ok (.iadd, 1) := F_Quad_hasOnSide_0.2.2.2.2.2.2.2.2.2.2.2.2.2.2.1
theorem d_Quad_hasOnSide_21 : decode prog_7_method_9_code 21 = .ok (.iconst 3, 1) := F_Quad_hasOnSide_0.2.2.2.2.2.2.2.2.2.2.2.2.2.2.2.1
theorem d_Quad_hasOnSide_22 : decode prog_7_method_9_code 22 = .ok (.iand, 1) := F_Quad_hasOnSide_0.2.2.2.2.2.2.2.2.2.2.2.2.2.2.2.2.1
theorem d_Quad_hasOnSide_23 : decode prog_7_method_9_code 23 = .ok (.aaload, 1) := F_Quad_hasOnSide_0.2.2.2.2.2.2.2.2.2.2.2.2.2.2.2.2.2.1
theorem d_Quad_hasOnSide_24 : decode prog_7_method_9_code 24 = .ok (.astore 4, 2) := F_Quad_hasOnSide_0.2.2.2.2.2.2.2.2.2.2.2.2.2.2.2.2.2.2.1
theorem d_Quad_hasOnSide_26 : decode prog_7_method_9_code 26 = .ok (.aload_n 3, 1) := F_Quad_hasOnSide_0.2.2.2.2.2.2.2.2.2.2.2.2.2.2.2.2.2.2.2.1
theorem d_Quad_hasOnSide_27 : decode prog_7_method_9_code 27 = .ok (.aload 4, 2) := F_Quad_hasOnSide_0.2.2.2.2.2.2.2.2.2.2.2.2.2.2.2.2.2.2.2.2.1
theorem d_Quad_hasOnSide_29 : decode prog_7_method_9_code 29 = .ok (.aload_n 1, 1) := F_Quad_hasOnSide_0.2.2.2.2.2.2.2.2.2.2.2.2.2.2.2.2.2.2.2.2.2.1
theorem d_Quad_hasOnSide_30 : decode prog_7_method_9_code 30 = .ok (.invokestatic 16, 3) := F_Quad_hasOnSide_0.2.2.2.2.2.2.2.2.2.2.2.2.2.2.2.2.2.2.2.2.2.2.1
theorem d_Quad_hasOnSide_33 : decode prog_7_method_9_code 33 = .ok (.lconst 0, 1) := F_Quad_hasOnSide_0.2.2.2.2.2.2.2.2.2.2.2.2.2.2.2.2.2.2.2.2.2.2.2.1
theorem d_Quad_hasOnSide_34 : decode prog_7_method_9_code 34 = .ok (.lcmp, 1) := F_Quad_hasOnSide_0.2.2.2.2.2.2.2.2.2.2.2.2.2.2.2.2.2.2.2.2.2.2.2.2.1
theorem d_Quad_hasOnSide_35 : decode prog_7_method_9_code 35 = .ok (.ifCond .ne (43), 3) := F_Quad_hasOnSide_0.2.2.2.2.2.2.2.2.2.2.2.2.2.2.2.2.2.2.2.2.2.2.2.2.2.1
theorem d_Quad_hasOnSide_38 : decode prog_7_method_9_code 38 = .ok (.aload_n 3, 1) := F_Quad_hasOnSide_0.2.2.2.2.2.2.2.2.2.2.2.2.2.2.2.2.2.2.2.2.2.2.2.2.2.2.1
theorem d_Quad_hasOnSide_39 : decode prog_7_method_9_code 39 = .ok (.iconst 0, 1) := F_Quad_hasOnSide_0.2.2.2.2.2.2.2.2.2.2.2.2.2.2.2.2.2.2.2.2.2.2.2.2.2.2.2.1
theorem d_Quad_hasOnSide_40 : decode prog_7_method_9_code 40 = .ok (.laload, 1) := F_Quad_hasOnSide_0.2.2.2.2.2.2.2.2.2.2.2.2.2.2.2.2.2.2.2.2.2.2.2.2.2.2.2.2.1
theorem d_Quad_hasOnSide_41 : decode prog_7_method_9_code 41 = .ok (.aload 4, 2) := F_Quad_hasOnSide_0.2.2.2.2.2.2.2.2.2.2.2.2.2.2.2.2.2.2.2.2.2.2.2.2.2.2.2.2.2.1
theorem d_Quad_hasOnSide_43 : decode prog_7_method_9_code 43 = .ok (.iconst 0, 1) := F_Quad_hasOnSide_0.2.2.2.2.2.2.2.2.2.2.2.2.2.2.2.2.2.2.2.2.2.2.2.2.2.2.2.2.2.2.1
theorem d_Quad_hasOnSide_44 : decode prog_7_method_9_code 44 = .ok (.laload, 1) := F_Quad_hasOnSide_0.2.2.2.2.2.2.2.2.2.2.2.2.2.2.2.2.2.2.2.2.2.2.2.2.2.2.2.2.2.2.2.1
theorem F_Quad_hasOnSide_45 : Jvm.Free.DS.Facts prog_7_method_9_code 45 [(.aload_n 1, 1), (.iconst 0, 1), (.laload, 1), (.aload_n 1, 1), (.iconst 2, 1), (.laload, 1), (.invokestatic 46, 3), (.ifCond .eq (24), 3), (.aload_n 3, 1), (.iconst 1, 1), (.laload, 1), (.aload 4, 2), (.iconst 1, 1), (.laload, 1), (.aload_n 1, 1), (.iconst 1, 1), (.laload, 1), (.aload_n 1, 1), (.iconst 2, 1), (.laload, 1), (.invokestatic 46, 3), (.ifCond .eq (5), 3), (.iconst 1, 1), (.ireturn, 1), (.iinc 2 (1), 3), (.goto (-79), 3), (.iconst 0, 1), (.ireturn, 1)] := Jvm.Free.DS.facts 45 _ (by decide +kernel) (by decide +kernel)
theorem d_Quad_hasOnSide_45 : decode prog_7_method_9_code 45 = .ok (.aload_n 1, 1) := F_Quad_hasOnSide_45.1
theorem d_Quad_hasOnSide_46 : decode prog_7_method_9_code 46 = .ok (.iconst 0, 1) := F_Quad_hasOnSide_45.2.1
theorem d_Quad_hasOnSide_47 : decode prog_7_method_9_code 47 = .ok (.laload, 1) := F_Quad_hasOnSide_45.2.2.1
theorem d_Quad_hasOnSide_48 : decode prog_7_method_9_code 48 = .ok (.aload_n 1, 1) := F_Quad_hasOnSide_45.2.2.2.1
theorem d_Quad_hasOnSide_49 : decode prog_7_method_9_code 49 = .ok (.iconst 2, 1) := F_Quad_hasOnSide_45.2.2.2.2.1
theorem d_Quad_hasOnSide_50 : decode prog_7_method_9_code 50 = .ok (.laload, 1) := F_Quad_hasOnSide_45.2.2.2.2.2.1
theorem d_Quad_hasOnSide_51 : decode prog_7_method_9_code 51 = .ok (.invokestatic 46, 3) := F_Quad_hasOnSide_45.2.2.2.2.2.2.1
theorem d_Quad_hasOnSide_54 : decode prog_7_method_9_code 54 = .ok (.ifCond .eq (24), 3) := F_Quad_hasOnSide_45.2.2.2.2.2.2.2.1
theorem d_Quad_hasOnSide_57 : decode prog_7_method_9_code 57 = .ok (.aload_n 3, 1) := F_Quad_hasOnSide_45.2.2.2.2.2.2.2.2.1
theorem d_Quad_hasOnSide_58 : decode prog_7_method_9_code 58 = .ok (.iconst 1, 1) := F_Quad_hasOnSide_45.2.2.2.2.2.2.2.2.2.1
theorem d_Quad_hasOnSide_59 : decode prog_7_method_9_code 59 = .ok (.laload, 1) := F_Quad_hasOnSide_45.2.2.2.2.2.2.2.2.2.2.1
theorem d_Quad_hasOnSide_60 : decode prog_7_method_9_code 60 = .ok (.aload 4, 2) := F_Quad_hasOnSide_45.2.2.2.2.2.2.2.2.2.2.2.1
theorem d_Quad_hasOnSide_62 : decode prog_7_method_9_code 62 = .ok (.iconst 1, 1) := F_Quad_hasOnSide_45.2.2.2.2.2.2.2.2.2.2.2.2.1
theorem d_Quad_hasOnSide_63 : decode prog_7_method_9_code 63 = .ok (.laload, 1) := F_Quad_hasOnSide_45.2.2.2.2.2.2.2.2.2.2.2.2.2.1
theorem d_Quad_hasOnSide_64 : decode prog_7_method_9_code 64 = .ok (.aload_n 1, 1) := F_Quad_hasOnSide_45.2.2.2.2.2.2.2.2.2.2.2.2.2.2.1
theorem d_Quad_hasOnSide_65 : decode prog_7_method_9_code 65 = .ok (.iconst 1, 1) := F_Quad_hasOnSide_45.2.2.2.2.2.2.2.2.2.2.2.2.2.2.2.1
theorem d_Quad_hasOnSide_66 : decode prog_7_method_9_code 66 = .ok (.laload, 1) := F_Quad_hasOnSide_45.2.2.2.2.2.2.2.2.2.2.2.2.2.2.2.2.1
theorem d_Quad_hasOnSide_67 : decode prog_7_method_9_code 67 = .ok (.aload_n 1, 1) := F_Quad_hasOnSide_45.2.2.2.2.2.2.2.2.2.2.2.2.2.2.2.2.2.1
theorem d_Quad_hasOnSide_68 : decode prog_7_method_9_code 68 = .ok (.iconst 2, 1) := F_Quad_hasOnSide_45.2.2.2.2.2.2.2.2.2.2.2.2.2.2.2.2.2.2.1
theorem d_Quad_hasOnSide_69 : decode prog_7_method_9_code 69 = .ok (.laload, 1) := F_Quad_hasOnSide_45.2.2.2.2.2.2.2.2.2.2.2.2.2.2.2.2.2.2.2.1
theorem d_Quad_hasOnSide_70 : decode prog_7_method_9_code 70 = .ok (.invokestatic 46, 3) := F_Quad_hasOnSide_45.2.2.2.2.2.2.2.2.2.2.2.2.2.2.2.2.2.2.2.2.1
theorem d_Quad_hasOnSide_73 : decode prog_7_method_9_code 73 = .ok (.ifCond .eq (5), 3) := F_Quad_hasOnSide_45.2.2.2.2.2.2.2.2.2.2.2.2.2.2.2.2.2.2.2.2.2.1
theorem d_Quad_hasOnSide_76 : decode prog_7_method_9_code 76 = .ok (.iconst 1, 1) := F_Quad_hasOnSide_45.2.2.2.2.2.2.2.2.2.2.2.2.2.2.2.2.2.2.2.2.2.2.1
theorem d_Quad_hasOnSide_77 : decode prog_7_method_9_code 77 = .ok (.ireturn, 1) := F_Quad_hasOnSide_45.2.2.2.2.2.2.2.2.2.2.2.2.2.2.2.2.2.2.2.2.2.2.2.1
theorem d_Quad_hasOnSide_78 : decode prog_7_method_9_code 78 = .ok (.iinc 2 (1), 3) := F_Quad_hasOnSide_45.2.2.2.2.2.2.2.2.2.2.2.2.2.2.2.2.2.2.2.2.2.2.2.2.1
theorem d_Quad_hasOnSide_81 : decode prog_7_method_9_code 81 = .ok (.goto (-79), 3) := F_Quad_hasOnSide_45.2.2.2.2.2.2.2.2.2.2.2.2.2.2.2.2.2.2.2.2.2.2.2.2.2.1
theorem d_Quad_hasOnSide_84 : decode prog_7_method_9_code 84 = .ok (.iconst 0, 1) := F_Quad_hasOnSide_45.2.2.2.2.2.2.2.2.2.2.2.2.2.2.2.2.2.2.2.2.2.2.2.2.2.2.1
theorem d_Quad_hasOnSide_85 : decode prog_7_method_9_code 85 = .ok (.ireturn, 1) := F_Quad_hasOnSide_45.2.2.2.2.2.2.2.2.2.2.2.2.2.2.2.2.2.2.2.2.2.2.2.2.2.2.2.1
theorem F_Quad_isAmid_0 : Jvm.Free.DS.Facts prog_7_method_10_code 0 [(.lload_n 0, 1), (.lload_n 2, 1), (.invokestatic 50, 3), (.lload 6, 2), (.lmul, 1), (.lload 4, 2), (.lcmp, 1), (.ifCond .gt (21), 3), (.lload 4, 2), (.lload_n 0, 1), (.lload_n 2, 1), (.invokestatic 56, 3), (.lload 6, 2), (.lmul, 1), (.lcmp, 1), (.ifCond .gt (7), 3), (.iconst 1, 1), (.goto (4), 3), (.iconst 0, 1), (.ireturn, 1)] := Jvm.Free.DS.facts 0 _ (by decide +kernel) (by decide +kernel)
theorem d_Quad_isAmid_0 : decode prog_7_method_10_code 0 = .ok (.lload_n 0, 1) := F_Quad_isAmid_0.1
theorem d_Quad_isAmid_1 : decode prog_7_method_10_code 1 = .ok (.lload_n 2, 1) := F_Quad_isAmid_0.2.1
theorem d_Quad_isAmid_2 : decode prog_7_method_10_code 2 = .ok (.invokestatic 50, 3) := F_Quad_isAmid_0.2.2.1
theorem d_Quad_isAmid_5 : decode prog_7_method_10_code 5 = .ok (.lload 6, 2) := F_Quad_isAmid_0.2.2.2.1
theorem d_Quad_isAmid_7 : decode prog_7_method_10_code 7 = .ok (.lmul, 1) := F_Quad_isAmid_0.2.2.2.2.1
theorem d_Quad_isAmid_8 : decode prog_7_method_10_code 8 = .ok (.lload 4, 2) := F_Quad_isAmid_0.2.2.2.2.2.1
theorem d_Quad_isAmid_10 : decode prog_7_method_10_code 10 = .ok (.lcmp, 1) := F_Quad_isAmid_0.2.2.2.2.2.2.1
theorem d_Quad_isAmid_11 : decode prog_7_method_10_code 11 = .ok (.ifCond .gt (21), 3) := F_Quad_isAmid_0.2.2.2.2.2.2.2.1
theorem d_Quad_isAmid_14 : decode prog_7_method_10_code 14 = .ok (.lload 4, 2) := F_Quad_isAmid_0.2.2.2.2.2.2.2.2.1
theorem d_Quad_isAmid_16 : decode prog_7_method_10_code 16 = .ok (.lload_n 0, 1) := F_Quad_isAmid_0.2.2.2.2.2.2.2.2.2.1
theorem d_Quad_isAmid_17 : decode prog_7_method_10_code 17 = .ok (.lload_n 2, 1) := F_Quad_isAmid_0.2.2.2.2.2.2.2.2.2.2.1
theorem d_Quad_isAmid_18 : decode prog_7_method_10_code 18 = .ok (.invokestatic 56, 3) := F_Quad_isAmid_0.2.2.2.2.2.2.2.2.2.2.2.1
theorem d_Quad_isAmid_21 : decode prog_7_method_10_code 21 = .ok (.lload 6, 2) := F_Quad_isAmid_0.2.2.2.2.2.2.2.2.2.2.2.2.1
theorem d_Quad_isAmid_23 : decode prog_7_method_10_code 23 = .ok (.lmul, 1) := F_Quad_isAmid_0.2.2.2.2.2.2.2.2.2.2.2.2.2.1
theorem d_Quad_isAmid_24 : decode prog_7_method_10_code 24 = .ok (.lcmp, 1) := F_Quad_isAmid_0.2.2.2.2.2.2.2.2.2.2.2.2.2.2.1
theorem d_Quad_isAmid_25 : decode prog_7_method_10_code 25 = .ok (.ifCond .gt (7), 3) := F_Quad_isAmid_0.2.2.2.2.2.2.2.2.2.2.2.2.2.2.2.1
theorem d_Quad_isAmid_28 : decode prog_7_method_10_code 28 = .ok (.iconst 1, 1) := F_Quad_isAmid_0.2.2.2.2.2.2.2.2.2.2.2.2.2.2.2.2.1
theorem d_Quad_isAmid_29 : decode prog_7_method_10_code 29 = .ok (.goto (4), 3) := F_Quad_isAmid_0.2.2.2.2.2.2.2.2.2.2.2.2.2.2.2.2.2.1
theorem d_Quad_isAmid_32 : decode prog_7_method_10_code 32 = .ok (.iconst 0, 1) := F_Quad_isAmid_0.2.2.2.2.2.2.2.2.2.2.2.2.2.2.2.2.2.2.1
theorem d_Quad_isAmid_33 : decode prog_7_method_10_code 33 = .ok (.ireturn, 1) := F_Quad_isAmid_0.2.2.2.2.2.2.2.2.2.2.2.2.2.2.2.2.2.2.2.1
theorem F_Quad_surrounds_0 : Jvm.Free.DS.Facts prog_7_method_11_code 0 [(.iconst 0, 1), (.istore_n 2, 1), (.iconst 0, 1), (.istore_n 3, 1), (.iload_n 3, 1), (.iconst 4, 1), (.if_icmp .ge (113), 3), (.aload_n 0, 1), (.getfield 11, 3), (.iload_n 3, 1), (.aaload, 1), (.astore 4, 2), (.aload_n 0, 1), (.getfield 11, 3), (.iload_n 3, 1), (.iconst 1, 1), (.iadd, 1), (.iconst 3, 1), (.iand, 1), (.aaload, 1), (.astore 5, 2), (.aload 4, 2), (.iconst 1, 1), (.laload, 1), (.aload_n 1, 1), (.iconst 2, 1), (.laload, 1), (.lmul, 1), (.aload_n 1, 1), (.iconst 1, 1), (.laload, 1), (.lcmp, 1)] := Jvm.Free.DS.facts 0 _ (by decide +kernel) (by decide +kernel)
theorem d_Quad_surrounds_0 : decode prog_7_method_11_code 0 = .ok (.iconst 0, 1) := F_Quad_surrounds_0.1
theorem d_Quad_surrounds_1 : decode prog_7_method_11_code 1 = .ok (.istore_n 2, 1) := F_Quad_surrounds_0.2.1
theorem d_Quad_surrounds_2 : decode prog_7_method_11_code 2 = .ok (.iconst 0, 1) := F_Quad_surrounds_0.2.2.1
theorem d_Quad_surrounds_3 : decode prog_7_method_11_code 3 = .ok (.istore_n 3, 1) := F_Quad_surrounds_0.2.2.2.1
theorem d_Quad_surrounds_4 : decode prog_7_method_11_code 4 = .ok (.iload_n 3, 1) := F_Quad_surrounds_0.2.2.2.2.1
theorem d_Quad_surrounds_5 : decode prog_7_method_11_code 5 = .ok (.iconst 4, 1) := F_Quad_surrounds_0.2.2.2.2.2.1
theorem d_Quad_surrounds_6 : decode prog_7_method_11_code 6 = .ok (.if_icmp .ge (113), 3) := F_Quad_surrounds_0.2.2.2.2.2.2.1
theorem d_Quad_surrounds_9 : decode prog_7_method_11_code 9 = .ok (.aload_n 0, 1) := F_Quad_surrounds_0.2.2.2.2.2.2.2.1
theorem d_Quad_surrounds_10 : decode prog_7_method_11_code 10 = .ok (.getfield 11, 3) := F_Quad_surrounds_0.2.2.2.2.2.2.2.2.1
theorem d_Quad_surrounds_13 : decode prog_7_method_11_code 13 = .ok (.iload_n 3, 1) := F_Quad_surrounds_0.2.2.2.2.2.2.2.2.2.1
theorem d_Quad_surrounds_14 : decode prog_7_method_11_code 14 = .ok (.aaload, 1) := F_Quad_surrounds_0.2.2.2.2.2.2.2.2.2.2.1
theorem d_Quad_surrounds_15 : decode prog_7_method_11_code 15 = .ok (.astore 4, 2) := F_Quad_surrounds_0.2.2.2.2.2.2.2.2.2.2.2.1
theorem d_Quad_surrounds_17 : decode prog_7_method_11_code 17 = .ok (.aload_n 0, 1) := F_Quad_surrounds_0.2.2.2.2.2.2.2.2.2.2.2.2.1
theorem d_Quad_surrounds_18 : decode prog_7_method_11_code 18 = .ok (.getfield 11, 3) := F_Quad_surrounds_0.2.2.2.2.2.2.2.2.2.2.2.2.2.1
theorem d_Quad_surrounds_21 : decode prog_7_method_11_code 21 = .ok (.iload_n 3, 1) := F_Quad_surrounds_0.2.2.2.2.2.2.2.2.2.2.2.2.2.2.1
theorem d_Quad_surrounds_22 : decode prog_7_method_11_code 22 = .ok (.iconst 1, 1) := F_Quad_surrounds_0.2.2.2.2.2.2.2.2.2.2.2.2.2.2.2.1
theorem d_Quad_surrounds_23 : decode prog_7_method_11_code 23 = .ok (.iadd, 1) := F_Quad_surrounds_0.2.2.2.2.2.2.2.2.2.2.2.2.2.2.2.2.1
theorem d_Quad_surrounds_24 : decode prog_7_method_11_code 24 = .ok (.iconst 3, 1) := F_Quad_surrounds_0.2.2.2.2.2.2.2.2.2.2.2.2.2.2.2.2.2.1
theorem d_Quad_surrounds_25 : decode prog_7_method_11_code 25 = .ok (.iand, 1) := F_Quad_surrounds_0.2.2.2.2.2.2.2.2.2.2.2.2.2.2.2.2.2.2.1
theorem d_Quad_surrounds_26 : decode prog_7_method_11_code 26 = .ok (.aaload, 1) := F_Quad_surrounds_0.2.2.2.2.2.2.2.2.2.2.2.2.2.2.2.2.2.2.2.1
theorem d_Quad_surrounds_27 : decode prog_7_method_11_code 27 = .ok (.astore 5, 2) := F_Quad_surrounds_0.2.2.2.2.2.2.2.2.2.2.2.2.2.2.2.2.2.2.2.2.1
theorem d_Quad_surrounds_29 : decode prog_7_method_11_code 29 = .ok (.aload 4, 2) := F_Quad_surrounds_0.2.2.2.2.2.2.2.2.2.2.2.2.2.2.2.2.2.2.2.2.2.1
theorem d_Quad_surrounds_31 : decode prog_7_method_11_code 31 = .ok (.iconst 1, 1) := F_Quad_surrounds_0.2.2.2.2.2.2.2.2.2.2.2.2.2.2.2.2.2.2.2.2.2.2.1
theorem d_Quad_surrounds_32 : decode prog_7_method_11_code 32 = .ok (.laload, 1) := F_Quad_surrounds_0.2.2.2.2.2.2.2.2.2.2.2.2.2.2.2.2.2.2.2.2.2.2.2.1
theorem d_Quad_surrounds_33 : decode prog_7_method_11_code 33 = .ok (.aload_n 1, 1) := F_Quad_surrounds_0.2.2.2.2.2.2.2.2.2.2.2.2.2.2.2.2.2.2.2.2.2.2.2.2.1
theorem d_Quad_surrounds_34 : decode prog_7_method_11_code 34 = .ok (.iconst 2, 1) := F_Quad_surrounds_0.2.2.2.2.2.2.2.2.2.2.2.2.2.2.2.2.2.2.2.2.2.2.2.2.2.1
theorem d_Quad_surrounds_35 : decode prog_7_method_11_code 35 = .ok (.laload, 1) := F_Quad_surrounds_0.2.2.2.2.2.2.2.2.2.2.2.2.2.2.2.2.2.2.2.2.2.2.2.2.2.2.1
theorem d_Quad_surrounds_36 : decode prog_7_method_11_code 36 = .ok (.lmul, 1) := F_Quad_surrounds_0.2.2.2.2.2.2.2.2.2.2.2.2.2.2.2.2.2.2.2.2.2.2.2.2.2.2.2.1
theorem d_Quad_surrounds_37 : decode prog_7_method_11_code 37 = .ok (.aload_n 1, 1) := F_Quad_surrounds_0.2.2.2.2.2.2.2.2.2.2.2.2.2.2.2.2.2.2.2.2.2.2.2.2.2.2.2.2.1
theorem d_Quad_surrounds_38 : decode prog_7_method_11_code 38 = .ok (.iconst 1, 1) := F_Quad_surrounds_0.2.2.2.2.2.2.2.2.2.2.2.2.2.2.2.2.2.2.2.2.2.2.2.2.2.2.2.2.2.1
theorem d_Quad_surrounds_39 : decode prog_7_method_11_code 39 = .ok (.laload, 1) := F_Quad_surrounds_0.2.2.2.2.2.2.2.2.2.2.2.2.2.2.2.2.2.2.2.2.2.2.2.2.2.2.2.2.2.2.1
theorem d_Quad_surrounds_40 : decode prog_7_method_11_code 40 = .ok (.lcmp, 1) := F_Quad_surrounds_0.2.2.2.2.2.2.2.2.2.2.2.2.2.2.2.2.2.2.2.2.2.2.2.2.2.2.2.2.2.2.2.1
theorem F_Quad_surrounds_41 : Jvm.Free.DS.Facts prog_7_method_11_code 41 [(.ifCond .le (7), 3), (.iconst 1, 1), (.goto (4), 3), (.iconst 0, 1), (.istore 6, 2), (.aload 5, 2), (.iconst 1, 1), (.laload, 1), (.aload_n 1, 1), (.iconst 2, 1), (.laload, 1), (.lmul, 1), (.aload_n 1, 1), (.iconst 1, 1), (.laload, 1), (.lcmp, 1), (.ifCond .le (7), 3), (.iconst 1, 1), (.goto (4), 3), (.iconst 0, 1), (.istore 7, 2), (.iload 6, 2), (.iload 7, 2), (.if_icmp .eq (36), 3), (.aload 4, 2), (.aload 5, 2), (.aload_n 1, 1), (.invokestatic 16, 3), (.lconst 0, 1), (.lcmp, 1), (.ifCond .le (7), 3), (.iconst 1, 1)] := Jvm.Free.DS.facts 41 _ (by decide +kernel) (by decide +kernel)
theorem d_Quad_surrounds_41 : decode prog_7_method_11_code 41 = .ok (.ifCond .le (7), 3) := F_Quad_surrounds_41.1
theorem d_Quad_surrounds_44 : decode prog_7_method_11_code 44 = .ok (.iconst 1, 1) := F_Quad_surrounds_41.2.1
theorem d_Quad_surrounds_45 : decode prog_7_method_11_code 45 = .ok (.goto (4), 3) := F_Quad_surrounds_41.2.2.1
theorem d_Quad_surrounds_48 : decode prog_7_method_11_code 48 = .ok (.iconst 0, 1) := F_Quad_surrounds_41.2.2.2.1
theorem d_Quad_surrounds_49 : decode prog_7_method_11_code 49 = .ok (.istore 6, 2) := F_Quad_surrounds_41.2.2.2.2.1
theorem d_Quad_surrounds_51 : decode prog_7_method_11_code 51 = .ok (.aload 5, 2) := F_Quad_surrounds_41.2.2.2.2.2.1
theorem d_Quad_surrounds_53 : decode prog_7_method_11_code 53 = .ok (.iconst 1, 1) := F_Quad_surrounds_41.2.2.2.2.2.2.1
theorem d_Quad_surrounds_54 : decode prog_7_method_11_code 54 = .ok (.laload, 1) := F_Quad_surrounds_41.2.2.2.2.2.2.2.1
theorem d_Quad_surrounds_55 : decode prog_7_method_11_code 55 = .ok (.aload_n 1, 1) := F_Quad_surrounds_41.2.2.2.2.2.2.2.2.1
theorem d_Quad_surrounds_56 : decode prog_7_method_11_code 56 = .ok (.iconst 2, 1) := F_Quad_surrounds_41.2.2.2.2.2.2.2.2.2.1
theorem d_Quad_surrounds_57 : decode prog_7_method_11_code 57 = .ok (.laload, 1) := F_Quad_surrounds_41.2.2.2.2.2.2.2.2.2.2.1
theorem d_Quad_surrounds_58 : decode prog_7_method_11_code 58 = .ok (.lmul, 1) := F_Quad_surrounds_41.2.2.2.2.2.2.2.2.2.2.2.1
theorem d_Quad_surrounds_59 : decode prog_7_method_11_code 59 = .ok (.aload_n 1, 1) := F_Quad_surrounds_41.2.2.2.2.2.2.2.2.2.2.2.2.1
theorem d_Quad_surrounds_60 : decode prog_7_method_11_code 60 = .ok (.iconst 1, 1) := F_Quad_surrounds_41.2.2.2.2.2.2.2.2.2.2.2.2.2.1
theorem d_Quad_surrounds_61 : decode prog_7_method_11_code 61 = .ok (.laload, 1) := F_Quad_surrounds_41.2.2.2.2.2.2.2.2.2.2.2.2.2.2.1
theorem d_Quad_surrounds_62 : decode prog_7_method_11_code 62 = .ok (.lcmp, 1) := F_Quad_surrounds_41.2.2.2.2.2.2.2.2.2.2.2.2.2.2.2.1
theorem d_Quad_surrounds_63 : decode prog_7_method_11_code 63 = .ok (.ifCond .le (7), 3) := F_Quad_surrounds_41.2.2.2.2.2.2.2.2.2.2.2.2.2.2.2.2.1
theorem d_Quad_surrounds_66 : decode prog_7_method_11_code 66 = .ok (.iconst 1, 1) := F_Quad_surrounds_41.2.2.2.2.2.2.2.2.2.2.2.2.2.2.2.2.2.1
theorem d_Quad_surrounds_67 : decode prog_7_method_11_code 67 = .ok (.goto (4), 3) := F_Quad_surrounds_41.2.2.2.2.2.2.2.2.2.2.2.2.2.2.2.2.2.2.1
theorem d_Quad_surrounds_70 : decode prog_7_method_11_code 70 = .ok (.iconst 0, 1) := F_Quad_surrounds_41.2.2.2.2.2.2.2.2.2.2.2.2.2.2.2.2.2.2.2.1
theorem d_Quad_surrounds_71 : decode prog_7_method_11_code 71 = .ok (.istore 7, 2) := F_Quad_surrounds_41.2.2.2.2.2.2.2.2.2.2.2.2.2.2.2.2.2.2.2.2.1
theorem d_Quad_surrounds_73 : decode prog_7_method_11_code 73 = .ok (.iload 6, 2) := F_Quad_surrounds_41.2.2.2.2.2.2.2.2.2.2.2.2.2.2.2.2.2.2.2.2.2.1
theorem d_Quad_surrounds_75 : decode prog_7_method_11_code 75 = .ok (.iload 7, 2) := F_Quad_surrounds_41.2.2.2.2.2.2.2.2.2.2.2.2.2.2.2.2.2.2.2.2.2.2.1
theorem d_Quad_surrounds_77 : decode prog_7_method_11_code 77 = .ok (.if_icmp .eq (36), 3) := F_Quad_surrounds_41.2.2.2.2.2.2.2.2.2.2.2.2.2.2.2.2.2.2.2.2.2.2.2.1
theorem d_Quad_surrounds_80 : decode prog_7_method_11_code 80 = .ok (.aload 4, 2) := F_Quad_surrounds_41.2.2.2.2.2.2.2.2.2.2.2.2.2.2.2.2.2.2.2.2.2.2.2.2.1
theorem d_Quad_surrounds_82 : decode prog_7_method_11_code 82 = .ok (.aload 5, 2) := F_Quad_surrounds_41.2.2.2.2.2.2.2.2.2.2.2.2.2.2.2.2.2.2.2.2.2.2.2.2.2.1
theorem d_Quad_surrounds_84 : decode prog_7_method_11_code 84 = .ok (.aload_n 1, 1) := F_Quad_surrounds_41.2.2.2.2.2.2.2.2.2.2.2.2.2.2.2.2.2.2.2.2.2.2.2.2.2.2.1
theorem d_Quad_surrounds_85 : decode prog_7_method_11_code 85 = .ok (.invokestatic 16, 3) := F_Quad_surrounds_41.2.2.2.2.2.2.2.2.2.2.2.2.2.2.2.2.2.2.2.2.2.2.2.2.2.2.2.1
theorem d_Quad_surrounds_88 : decode prog_7_method_11_code 88 = .ok (.lconst 0, 1) := F_Quad_surrounds_41.2.2.2.2.2.2.2.2.2.2.2.2.2.2.2.2.2.2.2.2.2.2.2.2.2.2.2.2.1
theorem d_Quad_surrounds_89 : decode prog_7_method_11_code 89 = .ok (.lcmp, 1) := F_Quad_surrounds_41.2.2.2.2.2.2.2.2.2.2.2.2.2.2.2.2.2.2.2.2.2.2.2.2.2.2.2.2.2.1
theorem d_Quad_surrounds_90 : decode prog_7_method_11_code 90 = .ok (.ifCond .le (7), 3) := F_Quad_surrounds_41.2.2.2.2.2.2.2.2.2.2.2.2.2.2.2.2.2.2.2.2.2.2.2.2.2.2.2.2.2.2.1
theorem d_Quad_surrounds_93 : decode prog_7_method_11_code 93 = .ok (.iconst 1, 1) := F_Quad_surrounds_41.2.2.2.2.2.2.2.2.2.2.2.2.2.2.2.2.2.2.2.2.2.2.2.2.2.2.2.2.2.2.2.1
theorem F_Quad_surrounds_94 : Jvm.Free.DS.Facts prog_7_method_11_code 94 [(.goto (4), 3), (.iconst 0, 1), (.iload 7, 2), (.if_icmp .ne (13), 3), (.iload_n 2, 1), (.ifCond .ne (7), 3), (.iconst 1, 1), (.goto (4), 3), (.iconst 0, 1), (.istore_n 2, 1), (.iinc 3 (1), 3), (.goto (-112), 3), (.iload_n 2, 1), (.ireturn, 1)] := Jvm.Free.DS.facts 94 _ (by decide +kernel) (by decide +kernel)
theorem d_Quad_surrounds_94 : decode prog_7_method_11_code 94 = .ok (.goto (4), 3) := F_Quad_surrounds_94.1
theorem d_Quad_surrounds_97 : decode prog_7_method_11_code 97 = .ok (.iconst 0, 1) := F_Quad_surrounds_94.2.1
theorem d_Quad_surrounds_98 : decode prog_7_method_11_code 98 = .ok (.iload 7, 2) := F_Quad_surrounds_94.2.2.1
theorem d_Quad_surrounds_100 : decode prog_7_method_11_code 100 = .ok (.if_icmp .ne (13), 3) := F_Quad_surrounds_94.2.2.2.1
theorem d_Quad_surrounds_103 : decode prog_7_method_11_code 103 = .ok (.iload_n 2, 1) := F_Quad_surrounds_94.2.2.2.2.1
theorem d_Quad_surrounds_104 : decode prog_7_method_11_code 104 = .ok (.ifCond .ne (7), 3) := F_Quad_surrounds_94.2.2.2.2.2.1
theorem d_Quad_surrounds_107 : decode prog_7_method_11_code 107 = .ok (.iconst 1, 1) := F_Quad_surrounds_94.2.2.2.2.2.2.1
theorem d_Quad_surrounds_108 : decode prog_7_method_11_code 108 = .ok (.goto (4), 3) := F_Quad_surrounds_94.2.2.2.2.2.2.2.1
theorem d_Quad_surrounds_111 : decode prog_7_method_11_code 111 = .ok (.iconst 0, 1) := F_Quad_surrounds_94.2.2.2.2.2.2.2.2.1
theorem d_Quad_surrounds_112 : decode prog_7_method_11_code 112 = .ok (.istore_n 2, 1) := F_Quad_surrounds_94.2.2.2.2.2.2.2.2.2.1
theorem d_Quad_surrounds_113 : decode prog_7_method_11_code 113 = .ok (.iinc 3 (1), 3) := F_Quad_surrounds_94.2.2.2.2.2.2.2.2.2.2.1
theorem d_Quad_surrounds_116 : decode prog_7_method_11_code 116 = .ok (.goto (-112), 3) := F_Quad_surrounds_94.2.2.2.2.2.2.2.2.2.2.2.1
theorem d_Quad_surrounds_119 : decode prog_7_method_11_code 119 = .ok (.iload_n 2, 1) := F_Quad_surrounds_94.2.2.2.2.2.2.2.2.2.2.2.2.1
theorem d_Quad_surrounds_120 : decode prog_7_method_11_code 120 = .ok (.ireturn, 1) := F_Quad_surrounds_94.2.2.2.2.2.2.2.2.2.2.2.2.2.1
theorem F_CM_crossings_0 : Jvm.Free.DS.Facts prog_1_method_44_code 0 [(.aload_n 0, 1), (.getfield 12, 3), (.iload_n 1, 1), (.invokevirtual 127, 3), (.ifCond .eq (14), 3), (.aload_n 0, 1), (.getfield 12, 3), (.iload_n 2, 1), (.invokevirtual 127, 3), (.ifCond .ne (5), 3), (.iconst (-1), 1), (.ireturn, 1), (.iconst 0, 1), (.istore_n 3, 1), (.iconst 0, 1), (.istore 4, 2), (.iload 4, 2), (.iconst 4, 1), (.if_icmp .ge (55), 3), (.iconst 0, 1), (.istore 5, 2), (.iload 5, 2), (.iconst 4, 1), (.if_icmp .ge (40), 3), (.aload_n 0, 1), (.getfield 12, 3), (.getfield 142, 3), (.iload_n 1, 1), (.aaload, 1), (.iload 4, 2), (.aload_n 0, 1), (.getfield 12, 3)] := Jvm.Free.DS.facts 0 _ (by decide +kernel) (by decide +kernel)
theorem d_CM_crossings_0 : decode prog_1_method_44_code 0 = .ok (.aload_n 0, 1) := F_CM_crossings_0.1
theorem d_CM_crossings_1 : decode prog_1_method_44_code 1 = .ok (.getfield 12, 3) := F_CM_crossings_0.2.1
theorem d_CM_crossings_4 : decode prog_1_method_44_code 4 = .ok (.iload_n 1, 1) := F_CM_crossings_0.2.2.1
theorem d_CM_crossings_5 : decode prog_1_method_44_code 5 = .ok (.invokevirtual 127, 3) := F_CM_crossings_0.2.2.2.1
theorem d_CM_crossings_8 : decode prog_1_method_44_code 8 = .ok (.ifCond .eq (14), 3) := F_CM_crossings_0.2.2.2.2.1
theorem d_CM_crossings_11 : decode prog_1_method_44_code 11 = .ok (.aload_n 0, 1) := F_CM_crossings_0.2.2.2.2.2.1
theorem d_CM_crossings_12 : decode prog_1_method_44_code 12 = .ok (.getfield 12, 3) := F_CM_crossings_0.2.2.2.2.2.2.1
theorem d_CM_crossings_15 : decode prog_1_method_44_code 15 = .ok (.iload_n 2, 1) := F_CM_crossings_0.2.2.2.2.2.2.2.1
theorem d_CM_crossings_16 : decode prog_1_method_44_code 16 = .ok (.invokevirtual 127, 3) := F_CM_crossings_0.2.2.2.2.2.2.2.2.1
theorem d_CM_crossings_19 : decode prog_1_method_44_code 19 = .ok (.ifCond .ne (5), 3) := F_CM_crossings_0.2.2.2.2.2.2.2.2.2.1
theorem d_CM_crossings_22 : decode prog_1_method_44_code 22 = .ok (.iconst (-1), 1) := F_CM_crossings_0.2.2.2.2.2.2.2.2.2.2.1
theorem d_CM_crossings_23 : decode prog_1_method_44_code 23 = .ok (.ireturn, 1) := F_CM_crossings_0.2.2.2.2.2.2.2.2.2.2.2.1
theorem d_CM_crossings_24 : decode prog_1_method_44_code 24 = .ok (.iconst 0, 1) := F_CM_crossings_0.2.2.2.2.2.2.2.2.2.2.2.2.1
theorem d_CM_crossings_25 : decode prog_1_method_44_code 25 = .ok (.istore_n 3, 1) := F_CM_crossings_0.2.2.2.2.2.2.2.2.2.2.2.2.2.1
theorem d_CM_crossings_26 : decode prog_1_method_44_code 26 = .ok (.iconst 0, 1) := F_CM_crossings_0.2.2.2.2.2.2.2.2.2.2.2.2.2.2.1
theorem d_CM_crossings_27 : decode prog_1_method_44_code 27 = .ok (.istore 4, 2) := F_CM_crossings_0.2.2.2.2.2.2.2.2.2.2.2.2.2.2.2.1
theorem d_CM_crossings_29 : decode prog_1_method_44_code 29 = .ok (.iload 4, 2) := F_CM_crossings_0.2.2.2.2.2.2.2.2.2.2.2.2.2.2.2.2.1
theorem d_CM_crossings_31 : decode prog_1_method_44_code 31 = .ok (.iconst 4, 1) := F_CM_crossings_0.2.2.2.2.2.2.2.2.2.2.2.2.2.2.2.2.2.1
theorem d_CM_crossings_32 : decode prog_1_method_44_code 32 = .ok (.if_icmp .ge (55), 3) := F_CM_crossings_0.2.2.2.2.2.2.2.2.2.2.2.2.2.2.2.2.2.2.1
theorem d_CM_crossings_35 : decode prog_1_method_44_code 35 = .ok (.iconst 0, 1) := F_CM_crossings_0.2.2.2.2.2.2.2.2.2.2.2.2.2.2.2.2.2.2.2.1
theorem d_CM_crossings_36 : decode prog_1_method_44_code 36 = .ok (.istore 5, 2) := F_CM_crossings_0.2.2.2.2.2.2.2.2.2.2.2.2.2.2.2.2.2.2.2.2.1
theorem d_CM_crossings_38 : decode prog_1_method_44_code 38 = .ok (.iload 5, 2) := F_CM_crossings_0.2.2.2.2.2.2.2.2.2.2.2.2.2.2.2.2.2.2.2.2.2.1
theorem d_CM_crossings_40 : decode prog_1_method_44_code 40 = .ok (.iconst 4, 1) := F_CM_crossings_0.2.2.2.2.2.2.2.2.2.2.2.2.2.2.2.2.2.2.2.2.2.2.1
theorem d_CM_crossings_41 : decode prog_1_method_44_code 41 = .ok (.if_icmp .ge (40), 3) := F_CM_crossings_0.2.2.2.2.2.2.2.2.2.2.2.2.2.2.2.2.2.2.2.2.2.2.2.1
theorem d_CM_crossings_44 : decode prog_1_method_44_code 44 = .ok (.aload_n 0, 1) := F_CM_crossings_0.2.2.2.2.2.2.2.2.2.2.2.2.2.2.2.2.2.2.2.2.2.2.2.2.1
theorem d_CM_crossings_45 : decode prog_1_method_44_code 45 = .ok (.getfield 12, 3) := F_CM_crossings_0.2.2.2.2.2.2.2.2.2.2.2.2.2.2.2.2.2.2.2.2.2.2.2.2.2.1
theorem d_CM_crossings_48 : decode prog_1_method_44_code 48 = .ok (.getfield 142, 3) := F_CM_crossings_0.2.2.2.2.2.2.2.2.2.2.2.2.2.2.2.2.2.2.2.2.2.2.2.2.2.2.1
theorem d_CM_crossings_51 : decode prog_1_method_44_code 51 = .ok (.iload_n 1, 1) := F_CM_crossings_0.2.2.2.2.2.2.2.2.2.2.2.2.2.2.2.2.2.2.2.2.2.2.2.2.2.2.2.1
theorem d_CM_crossings_52 : decode prog_1_method_44_code 52 = .ok (.aaload, 1) := F_CM_crossings_0.2.2.2.2.2.2.2.2.2.2.2.2.2.2.2.2.2.2.2.2.2.2.2.2.2.2.2.2.1
theorem d_CM_crossings_53 : decode prog_1_method_44_code 53 = .ok (.iload 4, 2) := F_CM_crossings_0.2.2.2.2.2.2.2.2.2.2.2.2.2.2.2.2.2.2.2.2.2.2.2.2.2.2.2.2.2.1
theorem d_CM_crossings_55 : decode prog_1_method_44_code 55 = .ok (.aload_n 0, 1) := F_CM_crossings_0.2.2.2.2.2.2.2.2.2.2.2.2.2.2.2.2.2.2.2.2.2.2.2.2.2.2.2.2.2.2.1
theorem d_CM_crossings_56 : decode prog_1_method_44_code 56 = .ok (.getfield 12, 3) := F_CM_crossings_0.2.2.2.2.2.2.2.2.2.2.2.2.2.2.2.2.2.2.2.2.2.2.2.2.2.2.2.2.2.2.2.1
theorem F_CM_crossings_59 : Jvm.Free.DS.Facts prog_1_method_44_code 59 [(.getfield 142, 3), (.iload_n 2, 1), (.aaload, 1), (.iload 5, 2), (.invokevirtual 367, 3), (.ifCond .eq (6), 3), (.iinc 3 (1), 3), (.iinc 5 (1), 3), (.goto (-40), 3), (.iinc 4 (1), 3), (.goto (-55), 3), (.iload_n 3, 1), (.ireturn, 1)] := Jvm.Free.DS.facts 59 _ (by decide +kernel) (by decide +kernel)
theorem d_CM_crossings_59 : decode prog_1_method_44_code 59 = .ok (.getfield 142, 3) := F_CM_crossings_59.1
theorem d_CM_crossings_62 : decode prog_1_method_44_code 62 = .ok (.iload_n 2, 1) := F_CM_crossings_59.2.1
theorem d_CM_crossings_63 : decode prog_1_method_44_code 63 = .ok (.aaload, 1) := F_CM_crossings_59.2.2.1
theorem d_CM_crossings_64 : decode prog_1_method_44_code 64 = .ok (.iload 5, 2) := F_CM_crossings_59.2.2.2.1
theorem d_CM_crossings_66 : decode prog_1_method_44_code 66 = .ok (.invokevirtual 367, 3) := F_CM_crossings_59.2.2.2.2.1
theorem d_CM_crossings_69 : decode prog_1_method_44_code 69 = .ok (.ifCond .eq (6), 3) := F_CM_crossings_59.2.2.2.2.2.1
theorem d_CM_crossings_72 : decode prog_1_method_44_code 72 = .ok (.iinc 3 (1), 3) := F_CM_crossings_59.2.2.2.2.2.2.1
theorem d_CM_crossings_75 : decode prog_1_method_44_code 75 = .ok (.iinc 5 (1), 3) := F_CM_crossings_59.2.2.2.2.2.2.2.1
theorem d_CM_crossings_78 : decode prog_1_method_44_code 78 = .ok (.goto (-40), 3) := F_CM_crossings_59.2.2.2.2.2.2.2.2.1
theorem d_CM_crossings_81 : decode prog_1_method_44_code 81 = .ok (.iinc 4 (1), 3) := F_CM_crossings_59.2.2.2.2.2.2.2.2.2.1
theorem d_CM_crossings_84 : decode prog_1_method_44_code 84 = .ok (.goto (-55), 3) := F_CM_crossings_59.2.2.2.2.2.2.2.2.2.2.1
theorem d_CM_crossings_87 : decode prog_1_method_44_code 87 = .ok (.iload_n 3, 1) := F_CM_crossings_59.2.2.2.2.2.2.2.2.2.2.2.1
theorem d_CM_crossings_88 : decode prog_1_method_44_code 88 = .ok (.ireturn, 1) := F_CM_crossings_59.2.2.2.2.2.2.2.2.2.2.2.2.1
theorem F_Quad_touches_0 : Jvm.Free.DS.Facts prog_7_method_12_code 0 [(.aload_n 0, 1), (.getfield 11, 3), (.iload_n 1, 1), (.iconst 3, 1), (.iand, 1), (.aaload, 1), (.astore 4, 2), (.aload_n 0, 1), (.getfield 11, 3), (.iload_n 1, 1), (.iconst 1, 1), (.iadd, 1), (.iconst 3, 1), (.iand, 1), (.aaload, 1), (.astore 5, 2), (.aload_n 2, 1), (.getfield 11, 3), (.iload_n 3, 1), (.iconst 3, 1), (.iand, 1), (.aaload, 1), (.astore 6, 2), (.aload_n 2, 1), (.getfield 11, 3), (.iload_n 3, 1), (.iconst 1, 1), (.iadd, 1), (.iconst 3, 1), (.iand, 1), (.aaload, 1), (.astore 7, 2)] := Jvm.Free.DS.facts 0 _ (by decide +kernel) (by decide +kernel)
theorem d_Quad_touches_0 : decode prog_7_method_12_code 0 = .ok (.aload_n 0, 1) := F_Quad_touches_0.1
theorem d_Quad_touches_1 : decode prog_7_method_12_code 1 = .ok (.getfield 11, 3) := F_Quad_touches_0.2.1
theorem d_Quad_touches_4 : decode prog_7_method_12_code 4 = .ok (.iload_n 1, 1) := F_Quad_touches_0.2.2.1
theorem d_Quad_touches_5 : decode prog_7_method_12_code 5 = .ok (.iconst 3, 1) := F_Quad_touches_0.2.2.2.1
theorem d_Quad_touches_6 : decode prog_7_method_12_code 6 = .ok (.iand, 1) := F_Quad_touches_0.2.2.2.2.1
theorem d_Quad_touches_7 : decode prog_7_method_12_code 7 = .ok (.aaload, 1) := F_Quad_touches_0.2.2.2.2.2.1
theorem d_Quad_touches_8 : decode prog_7_method_12_code 8 = .ok (.astore 4, 2) := F_Quad_touches_0.2.2.2.2.2.2.1
theorem d_Quad_touches_10 : decode prog_7_method_12_code 10 = .ok (.aload_n 0, 1) := F_Quad_touches_0.2.2.2.2.2.2.2.1
theorem d_Quad_touches_11 : decode prog_7_method_12_code 11 = .ok (.getfield 11, 3) := F_Quad_touches_0.2.2.2.2.2.2.2.2.1
theorem d_Quad_touches_14 : decode prog_7_method_12_code 14 = .ok (.iload_n 1, 1) := F_Quad_touches_0.2.2.2.2.2.2.2.2.2.1
theorem d_Quad_touches_15 : decode prog_7_method_12_code 15 = .ok (.iconst 1, 1) := F_Quad_touches_0.2.2.2.2.2.2.2.2.2.2.1
theorem d_Quad_touches_16 : decode prog_7_method_12_code 16 = .ok (.iadd, 1) := F_Quad_touches_0.2.2.2.2.2.2.2.2.2.2.2.1
theorem d_Quad_touches_17 : decode prog_7_method_12_code 17 = .ok (.iconst 3, 1) := F_Quad_touches_0.2.2.2.2.2.2.2.2.2.2.2.2.1
theorem d_Quad_touches_18 : decode prog_7_method_12_code 18 = .ok (.iand, 1) := F_Quad_touches_0.2.2.2.2.2.2.2.2.2.2.2.2.2.1
theorem d_Quad_touches_19 : decode prog_7_method_12_code 19 = .ok (.aaload, 1) := F_Quad_touches_0.2.2.2.2.2.2.2.2.2.2.2.2.2.2.1
theorem d_Quad_touches_20 : decode prog_7_method_12_code 20 = .ok (.astore 5, 2) := F_Quad_touches_0.2.2.2.2.2.2.2.2.2.2.2.2.2.2.2.1
theorem d_Quad_touches_22 : decode prog_7_method_12_code 22 = .ok (.aload_n 2, 1) := F_Quad_touches_0.2.2.2.2.2.2.2.2.2.2.2.2.2.2.2.2.1
theorem d_Quad_touches_23 : decode prog_7_method_12_code 23 = .ok (.getfield 11, 3) := F_Quad_touches_0.2.2.2.2.2.2.2.2.2.2.2.2.2.2.2.2.2.1
theorem d_Quad_touches_26 : decode prog_7_method_12_code 26 = .ok (.iload_n 3, 1) := F_Quad_touches_0.2.2.2.2.2.2.2.2.2.2.2.2.2.2.2.2.2.2.1
theorem d_Quad_touches_27 : decode prog_7_method_12_code 27 = .ok (.iconst 3, 1) := F_Quad_touches_0.2.2.2.2.2.2.2.2.2.2.2.2.2.2.2.2.2.2.2.1
theorem d_Quad_touches_28 : decode prog_7_method_12_code 28 = .ok (.iand, 1) := F_Quad_touches_0.2.2.2.2.2.2.2.2.2.2.2.2.2.2.2.2.2.2.2.2.1
theorem d_Quad_touches_29 : decode prog_7_method_12_code 29 = .ok (.aaload, 1) := F_Quad_touches_0.2.2.2.2.2.2.2.2.2.2.2.2.2.2.2.2.2.2.2.2.2.1
theorem d_Quad_touches_30 : decode prog_7_method_12_code 30 = .ok (.astore 6, 2) := F_Quad_touches_0.2.2.2.2.2.2.2.2.2.2.2.2.2.2.2.2.2.2.2.2.2.2.1
theorem d_Quad_touches_32 : decode prog_7_method_12_code 32 = .ok (.aload_n 2, 1) := F_Quad_touches_0.2.2.2.2.2.2.2.2.2.2.2.2.2.2.2.2.2.2.2.2.2.2.2.1
theorem d_Quad_touches_33 : decode prog_7_method_12_code 33 = .ok (.getfield 11, 3) := F_Quad_touches_0.2.2.2.2.2.2.2.2.2.2.2.2.2.2.2.2.2.2.2.2.2.2.2.2.1
theorem d_Quad_touches_36 : decode prog_7_method_12_code 36 = .ok (.iload_n 3, 1) := F_Quad_touches_0.2.2.2.2.2.2.2.2.2.2.2.2.2.2.2.2.2.2.2.2.2.2.2.2.2.1
theorem d_Quad_touches_37 : decode prog_7_method_12_code 37 = .ok (.iconst 1, 1) := F_Quad_touches_0.2.2.2.2.2.2.2.2.2.2.2.2.2.2.2.2.2.2.2.2.2.2.2.2.2.2.1
theorem d_Quad_touches_38 : decode prog_7_method_12_code 38 = .ok (.iadd, 1) := F_Quad_touches_0.2.2.2.2.2.2.2.2.2.2.2.2.2.2.2.2.2.2.2.2.2.2.2.2.2.2.2.1
theorem d_Quad_touches_39 : decode prog_7_method_12_code 39 = .ok (.iconst 3, 1) := F_Quad_touches_0.2.2.2.2.2.2.2.2.2.2.2.2.2.2.2.2.2.2.2.2.2.2.2.2.2.2.2.2.1
theorem d_Quad_touches_40 : decode prog_7_method_12_code 40 = .ok (.iand, 1) := F_Quad_touches_0.2.2.2.2.2.2.2.2.2.2.2.2.2.2.2.2.2.2.2.2.2.2.2.2.2.2.2.2.2.1
theorem d_Quad_touches_41 : decode prog_7_method_12_code 41 = .ok (.aaload, 1) := F_Quad_touches_0.2.2.2.2.2.2.2.2.2.2.2.2.2.2.2.2.2.2.2.2.2.2.2.2.2.2.2.2.2.2.1
theorem d_Quad_touches_42 : decode prog_7_method_12_code 42 = .ok (.astore 7, 2) := F_Quad_touches_0.2.2.2.2.2.2.2.2.2.2.2.2.2.2.2.2.2.2.2.2.2.2.2.2.2.2.2.2.2.2.2.1
theorem F_Quad_touches_44 : Jvm.Free.DS.Facts prog_7_method_12_code 44 [(.aload 4, 2), (.aload 5, 2), (.aload 6, 2), (.invokestatic 16, 3), (.invokestatic 26, 3), (.istore 8, 2), (.aload 4, 2), (.aload 5, 2), (.aload 7, 2), (.invokestatic 16, 3), (.invokestatic 26, 3), (.istore 9, 2), (.iload 8, 2), (.ifCond .ne (58), 3), (.iload 9, 2), (.ifCond .ne (53), 3), (.aload 4, 2), (.iconst 0, 1), (.laload, 1), (.aload 5, 2), (.iconst 0, 1), (.laload, 1), (.aload 6, 2), (.iconst 0, 1), (.laload, 1), (.aload 7, 2), (.iconst 0, 1), (.laload, 1), (.invokestatic 59, 3), (.ifCond .eq (29), 3), (.aload 4, 2), (.iconst 1, 1)] := Jvm.Free.DS.facts 44 _ (by decide +kernel) (by decide +kernel)
theorem d_Quad_touches_44 : decode prog_7_method_12_code 44 = .ok (.aload 4, 2) := F_Quad_touches_44.1
theorem d_Quad_touches_46 : decode prog_7_method_12_code 46 = .ok (.aload 5, 2) := F_Quad_touches_44.2.1
theorem d_Quad_touches_48 : decode prog_7_method_12_code 48 = .ok (.aload 6, 2) := F_Quad_touches_44.2.2.1
theorem d_Quad_touches_50 : decode prog_7_method_12_code 50 = .ok (.invokestatic 16, 3) := F_Quad_touches_44.2.2.2.1
theorem d_Quad_touches_53 : decode prog_7_method_12_code 53 = .ok (.invokestatic 26, 3) := F_Quad_touches_44.2.2.2.2.1
theorem d_Quad_touches_56 : decode prog_7_method_12_code 56 = .ok (.istore 8, 2) := F_Quad_touches_44.2.2.2.2.2.1
theorem d_Quad_touches_58 : decode prog_7_method_12_code 58 = .ok (.aload 4, 2) := F_Quad_touches_44.2.2.2.2.2.2.1
theorem d_Quad_touches_60 : decode prog_7_method_12_code 60 = .ok (.aload 5, 2) := F_Quad_touches_44.2.2.2.2.2.2.2.1
theorem d_Quad_touches_62 : decode prog_7_method_12_code 62 = .ok (.aload 7, 2) := F_Quad_touches_44.2.2.2.2.2.2.2.2.1
theorem d_Quad_touches_64 : decode prog_7_method_12_code 64 = .ok (.invokestatic 16, 3) := F_Quad_touches_44.2.2.2.2.2.2.2.2.2.1
theorem d_Quad_touches_67 : decode prog_7_method_12_code 67 = .ok (.invokestatic 26, 3) := F_Quad_touches_44.2.2.2.2.2.2.2.2.2.2.1
theorem d_Quad_touches_70 : decode prog_7_method_12_code 70 = .ok (.istore 9, 2) := F_Quad_touches_44.2.2.2.2.2.2.2.2.2.2.2.1
theorem d_Quad_touches_72 : decode prog_7_method_12_code 72 = .ok (.iload 8, 2) := F_Quad_touches_44.2.2.2.2.2.2.2.2.2.2.2.2.1
theorem d_Quad_touches_74 : decode prog_7_method_12_code 74 = .ok (.ifCond .ne (58), 3) := F_Quad_touches_44.2.2.2.2.2.2.2.2.2.2.2.2.2.1
theorem d_Quad_touches_77 : decode prog_7_method_12_code 77 = .ok (.iload 9, 2) := F_Quad_touches_44.2.2.2.2.2.2.2.2.2.2.2.2.2.2.1
theorem d_Quad_touches_79 : decode prog_7_method_12_code 79 = .ok (.ifCond .ne (53), 3) := F_Quad_touches_44.2.2.2.2.2.2.2.2.2.2.2.2.2.2.2.1
theorem d_Quad_touches_82 : decode prog_7_method_12_code 82 = .ok (.aload 4, 2) := F_Quad_touches_44.2.2.2.2.2.2.2.2.2.2.2.2.2.2.2.2.1
theorem d_Quad_touches_84 : decode prog_7_method_12_code 84 = .ok (.iconst 0, 1) := F_Quad_touches_44.2.2.2.2.2.2.2.2.2.2.2.2.2.2.2.2.2.1
theorem d_Quad_touches_85 : decode prog_7_method_12_code 85 = .ok (.laload, 1) := F_Quad_touches_44.2.2.2.2.2.2.2.2.2.2.2.2.2.2.2.2.2.2.1
theorem d_Quad_touches_86 : decode prog_7_method_12_code 86 = .ok (.aload 5, 2) := F_Quad_touches_44.2.2.2.2.2.2.2.2.2.2.2.2.2.2.2.2.2.2.2.1
theorem d_Quad_touches_88 : decode prog_7_method_12_code 88 = .ok (.iconst 0, 1) := F_Quad_touches_44.2.2.2.2.2.2.2.2.2.2.2.2.2.2.2.2.2.2.2.2.1
theorem d_Quad_touches_89 : decode prog_7_method_12_code 89 = .ok (.laload, 1) := F_Quad_touches_44.2.2.2.2.2.2.2.2.2.2.2.2.2.2.2.2.2.2.2.2.2.1
theorem d_Quad_touches_90 : decode prog_7_method_12_code 90 = .ok (.aload 6, 2) := F_Quad_touches_44.2.2.2.2.2.2.2.2.2.2.2.2.2.2.2.2.2.2.2.2.2.2.1
theorem d_Quad_touches_92 : decode prog_7_method_12_code 92 = .ok (.iconst 0, 1) := F_Quad_touches_44.2.2.2.2.2.2.2.2.2.2.2.2.2.2.2.2.2.2.2.2.2.2.2.1
theorem d_Quad_touches_93 : decode prog_7_method_12_code 93 = .ok (.laload, 1) := F_Quad_touches_44.2.2.2.2.2.2.2.2.2.2.2.2.2.2.2.2.2.2.2.2.2.2.2.2.1
theorem d_Quad_touches_94 : decode prog_7_method_12_code 94 = .ok (.aload 7, 2) := F_Quad_touches_44.2.2.2.2.2.2.2.2.2.2.2.2.2.2.2.2.2.2.2.2.2.2.2.2.2.1
theorem d_Quad_touches_96 : decode prog_7_method_12_code 96 = .ok (.iconst 0, 1) := F_Quad_touches_44.2.2.2.2.2.2.2.2.2.2.2.2.2.2.2.2.2.2.2.2.2.2.2.2.2.2.1
theorem d_Quad_touches_97 : decode prog_7_method_12_code 97 = .ok (.laload, 1) := F_Quad_touches_44.2.2.2.2.2.2.2.2.2.2.2.2.2.2.2.2.2.2.2.2.2.2.2.2.2.2.2.1
theorem d_Quad_touches_98 : decode prog_7_method_12_code 98 = .ok (.invokestatic 59, 3) := F_Quad_touches_44.2.2.2.2.2.2.2.2.2.2.2.2.2.2.2.2.2.2.2.2.2.2.2.2.2.2.2.2.1
theorem d_Quad_touches_101 : decode prog_7_method_12_code 101 = .ok (.ifCond .eq (29), 3) := F_Quad_touches_44.2.2.2.2.2.2.2.2.2.2.2.2.2.2.2.2.2.2.2.2.2.2.2.2.2.2.2.2.2.1
theorem d_Quad_touches_104 : decode prog_7_method_12_code 104 = .ok (.aload 4, 2) := F_Quad_touches_44.2.2.2.2.2.2.2.2.2.2.2.2.2.2.2.2.2.2.2.2.2.2.2.2.2.2.2.2.2.2.1
theorem d_Quad_touches_106 : decode prog_7_method_12_code 106 = .ok (.iconst 1, 1) := F_Quad_touches_44.2.2.2.2.2.2.2.2.2.2.2.2.2.2.2.2.2.2.2.2.2.2.2.2.2.2.2.2.2.2.2.1
theorem F_Quad_touches_107 : Jvm.Free.DS.Facts prog_7_method_12_code 107 [(.laload, 1), (.aload 5, 2), (.iconst 1, 1), (.laload, 1), (.aload 6, 2), (.iconst 1, 1), (.laload, 1), (.aload 7, 2), (.iconst 1, 1), (.laload, 1), (.invokestatic 59, 3), (.ifCond .eq (7), 3), (.iconst 1, 1), (.goto (4), 3), (.iconst 0, 1), (.ireturn, 1), (.aload 6, 2), (.aload 7, 2), (.aload 4, 2), (.invokestatic 16, 3), (.invokestatic 26, 3), (.istore 10, 2), (.aload 6, 2), (.aload 7, 2), (.aload 5, 2), (.invokestatic 16, 3), (.invokestatic 26, 3), (.istore 11, 2), (.iload 8, 2), (.iload 9, 2), (.imul, 1), (.ifCond .gt (15), 3)] := Jvm.Free.DS.facts 107 _ (by decide +kernel) (by decide +kernel)
theorem d_Quad_touches_107 : decode prog_7_method_12_code 107 = .ok (.laload, 1) := F_Quad_touches_107.1
theorem d_Quad_touches_108 : decode prog_7_method_12_code 108 = .ok (.aload 5, 2) := F_Quad_touches_107.2.1
theorem d_Quad_touches_110 : decode prog_7_method_12_code 110 = .ok (.iconst 1, 1) := F_Quad_touches_107.2.2.1
theorem d_Quad_touches_111 : decode prog_7_method_12_code 111 = .ok (.laload, 1) := F_Quad_touches_107.2.2.2.1
theorem d_Quad_touches_112 : decode prog_7_method_12_code 112 = .ok (.aload 6, 2) := F_Quad_touches_107.2.2.2.2.1
theorem d_Quad_touches_114 : decode prog_7_method_12_code 114 = .ok (.iconst 1, 1) := F_Quad_touches_107.2.2.2.2.2.1
theorem d_Quad_touches_115 : decode prog_7_method_12_code 115 = .ok (.laload, 1) := F_Quad_touches_107.2.2.2.2.2.2.1
theorem d_Quad_touches_116 : decode prog_7_method_12_code 116 = .ok (.aload 7, 2) := F_Quad_touches_107.2.2.2.2.2.2.2.1
theorem d_Quad_touches_118 : decode prog_7_method_12_code 118 = .ok (.iconst 1, 1) := F_Quad_touches_107.2.2.2.2.2.2.2.2.1
theorem d_Quad_touches_119 : decode prog_7_method_12_code 119 = .ok (.laload, 1) := F_Quad_touches_107.2.2.2.2.2.2.2.2.2.1
theorem d_Quad_touches_120 : decode prog_7_method_12_code 120 = .ok (.invokestatic 59, 3) := F_Quad_touches_107.2.2.2.2.2.2.2.2.2.2.1
theorem d_Quad_touches_123 : decode prog_7_method_12_code 123 = .ok (.ifCond .eq (7), 3) := F_Quad_touches_107.2.2.2.2.2.2.2.2.2.2.2.1
theorem d_Quad_touches_126 : decode prog_7_method_12_code 126 = .ok (.iconst 1, 1) := F_Quad_touches_107.2.2.2.2.2.2.2.2.2.2.2.2.1
theorem d_Quad_touches_127 : decode prog_7_method_12_code 127 = .ok (.goto (4), 3) := F_Quad_touches_107.2.2.2.2.2.2.2.2.2.2.2.2.2.1
theorem d_Quad_touches_130 : decode prog_7_method_12_code 130 = .ok (.iconst 0, 1) := F_Quad_touches_107.2.2.2.2.2.2.2.2.2.2.2.2.2.2.1
theorem d_Quad_touches_131 : decode prog_7_method_12_code 131 = .ok (.ireturn, 1) := F_Quad_touches_107.2.2.2.2.2.2.2.2.2.2.2.2.2.2.2.1
theorem d_Quad_touches_132 : decode prog_7_method_12_code 132 = .ok (.aload 6, 2) := F_Quad_touches_107.2.2.2.2.2.2.2.2.2.2.2.2.2.2.2.2.1
theorem d_Quad_touches_134 : decode prog_7_method_12_code 134 = .ok (.aload 7, 2) := F_Quad_touches_107.2.2.2.2.2.2.2.2.2.2.2.2.2.2.2.2.2.1
theorem d_Quad_touches_136 : decode prog_7_method_12_code 136 = .ok (.aload 4, 2) := F_Quad_touches_107.2.2.2.2.2.2.2.2.2.2.2.2.2.2.2.2.2.2.1
theorem d_Quad_touches_138 : decode prog_7_method_12_code 138 = .ok (.invokestatic 16, 3) := F_Quad_touches_107.2.2.2.2.2.2.2.2.2.2.2.2.2.2.2.2.2.2.2.1
theorem d_Quad_touches_141 : decode prog_7_method_12_code 141 = .ok (.invokestatic 26, 3) := F_Quad_touches_107.2.2.2.2.2.2.2.2.2.2.2.2.2.2.2.2.2.2.2.2.1
theorem d_Quad_touches_144 : decode prog_7_method_12_code 144 = .ok (.istore 10, 2) := F_Quad_touches_107.2.2.2.2.2.2.2.2.2.2.2.2.2.2.2.2.2.2.2.2.2.1
theorem d_Quad_touches_146 : decode prog_7_method_12_code 146 = .ok (.aload 6, 2) := F_Quad_touches_107.2.2.2.2.2.2.2.2.2.2.2.2.2.2.2.2.2.2.2.2.2.2.1
theorem d_Quad_touches_148 : decode prog_7_method_12_code 148 = .ok (.aload 7, 2) := F_Quad_touches_107.2.2.2.2.2.2.2.2.2.2.2.2.2.2.2.2.2.2.2.2.2.2.2.1
theorem d_Quad_touches_150 : decode prog_7_method_12_code 150 = .ok (.aload 5, 2) := F_Quad_touches_107.2.2.2.2.2.2.2.2.2.2.2.2.2.2.2.2.2.2.2.2.2.2.2.2.1
theorem d_Quad_touches_152 : decode prog_7_method_12_code 152 = .ok (.invokestatic 16, 3) := F_Quad_touches_107.2.2.2.2.2.2.2.2.2.2.2.2.2.2.2.2.2.2.2.2.2.2.2.2.2.1
theorem d_Quad_touches_155 : decode prog_7_method_12_code 155 = .ok (.invokestatic 26, 3) := F_Quad_touches_107.2.2.2.2.2.2.2.2.2.2.2.2.2.2.2.2.2.2.2.2.2.2.2.2.2.2.1
theorem d_Quad_touches_158 : decode prog_7_method_12_code 158 = .ok (.istore 11, 2) := F_Quad_touches_107.2.2.2.2.2.2.2.2.2.2.2.2.2.2.2.2.2.2.2.2.2.2.2.2.2.2.2.1
theorem d_Quad_touches_160 : decode prog_7_method_12_code 160 = .ok (.iload 8, 2) := F_Quad_touches_107.2.2.2.2.2.2.2.2.2.2.2.2.2.2.2.2.2.2.2.2.2.2.2.2.2.2.2.2.1
theorem d_Quad_touches_162 : decode prog_7_method_12_code 162 = .ok (.iload 9, 2) := F_Quad_touches_107.2.2.2.2.2.2.2.2.2.2.2.2.2.2.2.2.2.2.2.2.2.2.2.2.2.2.2.2.2.1
theorem d_Quad_touches_164 : decode prog_7_method_12_code 164 = .ok (.imul, 1) := F_Quad_touches_107.2.2.2.2.2.2.2.2.2.2.2.2.2.2.2.2.2.2.2.2.2.2.2.2.2.2.2.2.2.2.1
theorem d_Quad_touches_165 : decode prog_7_method_12_code 165 = .ok (.ifCond .gt (15), 3) := F_Quad_touches_107.2.2.2.2.2.2.2.2.2.2.2.2.2.2.2.2.2.2.2.2.2.2.2.2.2.2.2.2.2.2.2.1
theorem F_Quad_touches_168 : Jvm.Free.DS.Facts prog_7_method_12_code 168 [(.iload 10, 2), (.iload 11, 2), (.imul, 1), (.ifCond .gt (7), 3), (.iconst 1, 1), (.goto (4), 3), (.iconst 0, 1), (.ireturn, 1)] := Jvm.Free.DS.facts 168 _ (by decide +kernel) (by decide +kernel)
theorem d_Quad_touches_168 : decode prog_7_method_12_code 168 = .ok (.iload 10, 2) := F_Quad_touches_168.1
theorem d_Quad_touches_170 : decode prog_7_method_12_code 170 = .ok (.iload 11, 2) := F_Quad_touches_168.2.1
theorem d_Quad_touches_172 : decode prog_7_method_12_code 172 = .ok (.imul, 1) := F_Quad_touches_168.2.2.1
theorem d_Quad_touches_173 : decode prog_7_method_12_code 173 = .ok (.ifCond .gt (7), 3) := F_Quad_touches_168.2.2.2.1
theorem d_Quad_touches_176 : decode prog_7_method_12_code 176 = .ok (.iconst 1, 1) := F_Quad_touches_168.2.2.2.2.1
theorem d_Quad_touches_177 : decode prog_7_method_12_code 177 = .ok (.goto (4), 3) := F_Quad_touches_168.2.2.2.2.2.1
theorem d_Quad_touches_180 : decode prog_7_method_12_code 180 = .ok (.iconst 0, 1) := F_Quad_touches_168.2.2.2.2.2.2.1
theorem d_Quad_touches_181 : decode prog_7_method_12_code 181 = .ok (.ireturn, 1) := F_Quad_touches_168.2.2.2.2.2.2.2.1
