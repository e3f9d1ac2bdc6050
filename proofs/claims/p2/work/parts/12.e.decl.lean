/-! declarations and decodings of methods (by program) -/
def M_MD_horizon : pM := (⟨"CornerMapsModel", "horizon", "(II)J"⟩, prog_12_method_72_code, 3, some .long)
theorem co_MD_horizon : CalOK M_MD_horizon 2 := ⟨g_at 1902 (by decide +kernel) rfl, g_at 13 (by decide +kernel) rfl, by decide +kernel, by decide +kernel, by decide +kernel⟩
theorem pn_MD_horizon : plainName M_MD_horizon.1.cls = true := by decide +kernel
def M_MD_vanishing : pM := (⟨"CornerMapsModel", "vanishing", "(II)J"⟩, prog_12_method_73_code, 3, some .long)
theorem co_MD_vanishing : CalOK M_MD_vanishing 2 := ⟨g_at 1906 (by decide +kernel) rfl, g_at 13 (by decide +kernel) rfl, by decide +kernel, by decide +kernel, by decide +kernel⟩
theorem pn_MD_vanishing : plainName M_MD_vanishing.1.cls = true := by decide +kernel
def M_MD_cut : pM := (⟨"CornerMapsModel", "cut", "(III)I"⟩, prog_12_method_75_code, 5, some .int)
theorem co_MD_cut : CalOK M_MD_cut 3 := ⟨g_at 1910 (by decide +kernel) rfl, g_at 13 (by decide +kernel) rfl, by decide +kernel, by decide +kernel, by decide +kernel⟩
theorem pn_MD_cut : plainName M_MD_cut.1.cls = true := by decide +kernel
def M_MD_sideOf : pM := (⟨"CornerMapsModel", "sideOf", "(IJJJ)I"⟩, prog_12_method_74_code, 8, some .int)
theorem co_MD_sideOf : CalOK M_MD_sideOf 4 := ⟨g_at 1914 (by decide +kernel) rfl, g_at 13 (by decide +kernel) rfl, by decide +kernel, by decide +kernel, by decide +kernel⟩
theorem pn_MD_sideOf : plainName M_MD_sideOf.1.cls = true := by decide +kernel
def M_Long_signum : pM := (⟨"java/lang/Long", "signum", "(J)I"⟩, prog_23_method_57_code, 2, some .int)
theorem co_Long_signum : CalOK M_Long_signum 1 := ⟨g_at 1917 (by decide +kernel) rfl, g_at 27 (by decide +kernel) rfl, by decide +kernel, by decide +kernel, by decide +kernel⟩
theorem pn_Long_signum : plainName M_Long_signum.1.cls = true := by decide +kernel
def M_MD_cutSides : pM := (⟨"CornerMapsModel", "cutSides", "(II)I"⟩, prog_12_method_77_code, 5, some .int)
theorem co_MD_cutSides : CalOK M_MD_cutSides 2 := ⟨g_at 1921 (by decide +kernel) rfl, g_at 13 (by decide +kernel) rfl, by decide +kernel, by decide +kernel, by decide +kernel⟩
theorem pn_MD_cutSides : plainName M_MD_cutSides.1.cls = true := by decide +kernel
def M_MD_sideOfCorner : pM := (⟨"CornerMapsModel", "sideOfCorner", "(III)I"⟩, prog_12_method_76_code, 4, some .int)
theorem co_MD_sideOfCorner : CalOK M_MD_sideOfCorner 3 := ⟨g_at 1925 (by decide +kernel) rfl, g_at 13 (by decide +kernel) rfl, by decide +kernel, by decide +kernel, by decide +kernel⟩
theorem pn_MD_sideOfCorner : plainName M_MD_sideOfCorner.1.cls = true := by decide +kernel
def M_MD_kept : pM := (⟨"CornerMapsModel", "kept", "(I)I"⟩, prog_12_method_78_code, 6, some .int)
theorem co_MD_kept : CalOK M_MD_kept 1 := ⟨g_at 1929 (by decide +kernel) rfl, g_at 13 (by decide +kernel) rfl, by decide +kernel, by decide +kernel, by decide +kernel⟩
theorem pn_MD_kept : plainName M_MD_kept.1.cls = true := by decide +kernel
def M_MD_kind : pM := (⟨"CornerMapsModel", "kind", "(I)I"⟩, prog_12_method_79_code, 2, some .int)
theorem co_MD_kind : CalOK M_MD_kind 1 := ⟨g_at 1933 (by decide +kernel) rfl, g_at 13 (by decide +kernel) rfl, by decide +kernel, by decide +kernel, by decide +kernel⟩
theorem pn_MD_kind : plainName M_MD_kind.1.cls = true := by decide +kernel
def M_MD_kindOfNine : pM := (⟨"CornerMapsModel", "kindOfNine", "()I"⟩, prog_12_method_80_code, 8, some .int)
theorem co_MD_kindOfNine : CalOK M_MD_kindOfNine 0 := ⟨g_at 1937 (by decide +kernel) rfl, g_at 13 (by decide +kernel) rfl, by decide +kernel, by decide +kernel, by decide +kernel⟩
theorem pn_MD_kindOfNine : plainName M_MD_kindOfNine.1.cls = true := by decide +kernel
def M_MD_isNothing : pM := (⟨"CornerMapsModel", "isNothing", "()Z"⟩, prog_12_method_31_code, 2, some .boolean)
theorem co_MD_isNothing : CalOK M_MD_isNothing 0 := ⟨g_at 1941 (by decide +kernel) rfl, g_at 13 (by decide +kernel) rfl, by decide +kernel, by decide +kernel, by decide +kernel⟩
theorem pn_MD_isNothing : plainName M_MD_isNothing.1.cls = true := by decide +kernel
def M_MD_turn : pM := (⟨"CornerMapsModel", "turn", "(I)I"⟩, prog_12_method_81_code, 3, some .int)
theorem co_MD_turn : CalOK M_MD_turn 1 := ⟨g_at 1945 (by decide +kernel) rfl, g_at 13 (by decide +kernel) rfl, by decide +kernel, by decide +kernel, by decide +kernel⟩
theorem pn_MD_turn : plainName M_MD_turn.1.cls = true := by decide +kernel
def M_MD_order : pM := (⟨"CornerMapsModel", "order", "(I)I"⟩, prog_12_method_82_code, 3, some .int)
theorem co_MD_order : CalOK M_MD_order 1 := ⟨g_at 1950 (by decide +kernel) rfl, g_at 13 (by decide +kernel) rfl, by decide +kernel, by decide +kernel, by decide +kernel⟩
theorem pn_MD_order : plainName M_MD_order.1.cls = true := by decide +kernel
def M_MD_same : pM := (⟨"CornerMapsModel", "same", "(II)I"⟩, prog_12_method_83_code, 3, some .int)
theorem co_MD_same : CalOK M_MD_same 2 := ⟨g_at 1954 (by decide +kernel) rfl, g_at 13 (by decide +kernel) rfl, by decide +kernel, by decide +kernel, by decide +kernel⟩
theorem pn_MD_same : plainName M_MD_same.1.cls = true := by decide +kernel
def M_MD_isLike : pM := (⟨"CornerMapsModel", "isLike", "(I)Z"⟩, prog_12_method_84_code, 3, some .boolean)
theorem co_MD_isLike : CalOK M_MD_isLike 1 := ⟨g_at 1958 (by decide +kernel) rfl, g_at 13 (by decide +kernel) rfl, by decide +kernel, by decide +kernel, by decide +kernel⟩
theorem pn_MD_isLike : plainName M_MD_isLike.1.cls = true := by decide +kernel
def M_MD_commute : pM := (⟨"CornerMapsModel", "commute", "(II)I"⟩, prog_12_method_85_code, 5, some .int)
theorem co_MD_commute : CalOK M_MD_commute 2 := ⟨g_at 1962 (by decide +kernel) rfl, g_at 13 (by decide +kernel) rfl, by decide +kernel, by decide +kernel, by decide +kernel⟩
theorem pn_MD_commute : plainName M_MD_commute.1.cls = true := by decide +kernel
def M_MD_undoes : pM := (⟨"CornerMapsModel", "undoes", "(II)I"⟩, prog_12_method_86_code, 3, some .int)
theorem co_MD_undoes : CalOK M_MD_undoes 2 := ⟨g_at 1966 (by decide +kernel) rfl, g_at 13 (by decide +kernel) rfl, by decide +kernel, by decide +kernel, by decide +kernel⟩
theorem pn_MD_undoes : plainName M_MD_undoes.1.cls = true := by decide +kernel
def M_MD_stays : pM := (⟨"CornerMapsModel", "stays", "(II)I"⟩, prog_12_method_88_code, 3, some .int)
theorem co_MD_stays : CalOK M_MD_stays 2 := ⟨g_at 1970 (by decide +kernel) rfl, g_at 13 (by decide +kernel) rfl, by decide +kernel, by decide +kernel, by decide +kernel⟩
theorem pn_MD_stays : plainName M_MD_stays.1.cls = true := by decide +kernel
def M_MD_doesStay : pM := (⟨"CornerMapsModel", "doesStay", "(II)Z"⟩, prog_12_method_87_code, 3, some .boolean)
theorem co_MD_doesStay : CalOK M_MD_doesStay 2 := ⟨g_at 1974 (by decide +kernel) rfl, g_at 13 (by decide +kernel) rfl, by decide +kernel, by decide +kernel, by decide +kernel⟩
theorem pn_MD_doesStay : plainName M_MD_doesStay.1.cls = true := by decide +kernel
def M_MD_points : pM := (⟨"CornerMapsModel", "points", "(II)I"⟩, prog_12_method_89_code, 8, some .int)
theorem co_MD_points : CalOK M_MD_points 2 := ⟨g_at 1978 (by decide +kernel) rfl, g_at 13 (by decide +kernel) rfl, by decide +kernel, by decide +kernel, by decide +kernel⟩
theorem pn_MD_points : plainName M_MD_points.1.cls = true := by decide +kernel
def M_MD_join : pM := (⟨"CornerMapsModel", "join", "(III)J"⟩, prog_12_method_93_code, 4, some .long)
theorem co_MD_join : CalOK M_MD_join 3 := ⟨g_at 1982 (by decide +kernel) rfl, g_at 13 (by decide +kernel) rfl, by decide +kernel, by decide +kernel, by decide +kernel⟩
theorem pn_MD_join : plainName M_MD_join.1.cls = true := by decide +kernel
def M_MD_crossesPoints : pM := (⟨"CornerMapsModel", "crossesPoints", "([JII)V"⟩, prog_12_method_91_code, 4, none)
theorem co_MD_crossesPoints : CalOK M_MD_crossesPoints 3 := ⟨g_at 1986 (by decide +kernel) rfl, g_at 13 (by decide +kernel) rfl, by decide +kernel, by decide +kernel, by decide +kernel⟩
theorem pn_MD_crossesPoints : plainName M_MD_crossesPoints.1.cls = true := by decide +kernel
def M_MD_isNone : pM := (⟨"CornerMapsModel", "isNone", "([J)Z"⟩, prog_12_method_92_code, 1, some .boolean)
theorem co_MD_isNone : CalOK M_MD_isNone 1 := ⟨g_at 1993 (by decide +kernel) rfl, g_at 13 (by decide +kernel) rfl, by decide +kernel, by decide +kernel, by decide +kernel⟩
theorem pn_MD_isNone : plainName M_MD_isNone.1.cls = true := by decide +kernel
def M_MD_crosses : pM := (⟨"CornerMapsModel", "crosses", "([JJJJJJJ)V"⟩, prog_12_method_90_code, 14, none)
theorem co_MD_crosses : CalOK M_MD_crosses 7 := ⟨g_at 1990 (by decide +kernel) rfl, g_at 13 (by decide +kernel) rfl, by decide +kernel, by decide +kernel, by decide +kernel⟩
theorem pn_MD_crosses : plainName M_MD_crosses.1.cls = true := by decide +kernel
def M_MD_inLine : pM := (⟨"CornerMapsModel", "inLine", "(III)I"⟩, prog_12_method_95_code, 4, some .int)
theorem co_MD_inLine : CalOK M_MD_inLine 3 := ⟨g_at 1997 (by decide +kernel) rfl, g_at 13 (by decide +kernel) rfl, by decide +kernel, by decide +kernel, by decide +kernel⟩
theorem pn_MD_inLine : plainName M_MD_inLine.1.cls = true := by decide +kernel
def M_MD_isOn : pM := (⟨"CornerMapsModel", "isOn", "([JI)Z"⟩, prog_12_method_94_code, 3, some .boolean)
theorem co_MD_isOn : CalOK M_MD_isOn 2 := ⟨g_at 2001 (by decide +kernel) rfl, g_at 13 (by decide +kernel) rfl, by decide +kernel, by decide +kernel, by decide +kernel⟩
theorem pn_MD_isOn : plainName M_MD_isOn.1.cls = true := by decide +kernel
def M_MD_meet : pM := (⟨"CornerMapsModel", "meet", "(IIIII)J"⟩, prog_12_method_96_code, 12, some .long)
theorem co_MD_meet : CalOK M_MD_meet 5 := ⟨g_at 2005 (by decide +kernel) rfl, g_at 13 (by decide +kernel) rfl, by decide +kernel, by decide +kernel, by decide +kernel⟩
theorem pn_MD_meet : plainName M_MD_meet.1.cls = true := by decide +kernel
def M_MD_share : pM := (⟨"CornerMapsModel", "share", "(IIIII)J"⟩, prog_12_method_100_code, 12, some .long)
theorem co_MD_share : CalOK M_MD_share 5 := ⟨g_at 2009 (by decide +kernel) rfl, g_at 13 (by decide +kernel) rfl, by decide +kernel, by decide +kernel, by decide +kernel⟩
theorem pn_MD_share : plainName M_MD_share.1.cls = true := by decide +kernel
def M_MD_areThree : pM := (⟨"CornerMapsModel", "areThree", "(III)Z"⟩, prog_12_method_98_code, 4, some .boolean)
theorem co_MD_areThree : CalOK M_MD_areThree 3 := ⟨g_at 2013 (by decide +kernel) rfl, g_at 13 (by decide +kernel) rfl, by decide +kernel, by decide +kernel, by decide +kernel⟩
theorem pn_MD_areThree : plainName M_MD_areThree.1.cls = true := by decide +kernel
def M_MD_alike : pM := (⟨"CornerMapsModel", "alike", "(II)Z"⟩, prog_12_method_97_code, 3, some .boolean)
theorem co_MD_alike : CalOK M_MD_alike 2 := ⟨g_at 2017 (by decide +kernel) rfl, g_at 13 (by decide +kernel) rfl, by decide +kernel, by decide +kernel, by decide +kernel⟩
theorem pn_MD_alike : plainName M_MD_alike.1.cls = true := by decide +kernel
def M_MD_often : pM := (⟨"CornerMapsModel", "often", "(II)J"⟩, prog_12_method_99_code, 3, some .long)
theorem co_MD_often : CalOK M_MD_often 2 := ⟨g_at 2021 (by decide +kernel) rfl, g_at 13 (by decide +kernel) rfl, by decide +kernel, by decide +kernel, by decide +kernel⟩
theorem pn_MD_often : plainName M_MD_often.1.cls = true := by decide +kernel
def M_MD_fourth : pM := (⟨"CornerMapsModel", "fourth", "(IIII)J"⟩, prog_12_method_101_code, 9, some .long)
theorem co_MD_fourth : CalOK M_MD_fourth 4 := ⟨g_at 2025 (by decide +kernel) rfl, g_at 13 (by decide +kernel) rfl, by decide +kernel, by decide +kernel, by decide +kernel⟩
theorem pn_MD_fourth : plainName M_MD_fourth.1.cls = true := by decide +kernel
def M_MD_track : pM := (⟨"CornerMapsModel", "track", "(IIII)J"⟩, prog_12_method_105_code, 5, some .long)
theorem co_MD_track : CalOK M_MD_track 4 := ⟨g_at 2029 (by decide +kernel) rfl, g_at 13 (by decide +kernel) rfl, by decide +kernel, by decide +kernel, by decide +kernel⟩
theorem pn_MD_track : plainName M_MD_track.1.cls = true := by decide +kernel
def M_MD_tracks : pM := (⟨"CornerMapsModel", "tracks", "(III)Z"⟩, prog_12_method_104_code, 5, some .boolean)
theorem co_MD_tracks : CalOK M_MD_tracks 3 := ⟨g_at 2033 (by decide +kernel) rfl, g_at 13 (by decide +kernel) rfl, by decide +kernel, by decide +kernel, by decide +kernel⟩
theorem pn_MD_tracks : plainName M_MD_tracks.1.cls = true := by decide +kernel
def M_MD_hasEdges : pM := (⟨"CornerMapsModel", "hasEdges", "()Z"⟩, prog_12_method_102_code, 1, some .boolean)
theorem co_MD_hasEdges : CalOK M_MD_hasEdges 0 := ⟨g_at 2037 (by decide +kernel) rfl, g_at 13 (by decide +kernel) rfl, by decide +kernel, by decide +kernel, by decide +kernel⟩
theorem pn_MD_hasEdges : plainName M_MD_hasEdges.1.cls = true := by decide +kernel
def M_MD_cycle : pM := (⟨"CornerMapsModel", "cycle", "(II)I"⟩, prog_12_method_106_code, 4, some .int)
theorem co_MD_cycle : CalOK M_MD_cycle 2 := ⟨g_at 2041 (by decide +kernel) rfl, g_at 13 (by decide +kernel) rfl, by decide +kernel, by decide +kernel, by decide +kernel⟩
theorem pn_MD_cycle : plainName M_MD_cycle.1.cls = true := by decide +kernel
def M_MD_isAt : pM := (⟨"CornerMapsModel", "isAt", "(I)Z"⟩, prog_12_method_103_code, 2, some .boolean)
theorem co_MD_isAt : CalOK M_MD_isAt 1 := ⟨g_at 2045 (by decide +kernel) rfl, g_at 13 (by decide +kernel) rfl, by decide +kernel, by decide +kernel, by decide +kernel⟩
theorem pn_MD_isAt : plainName M_MD_isAt.1.cls = true := by decide +kernel
def M_MD_leads : pM := (⟨"CornerMapsModel", "leads", "(III)I"⟩, prog_12_method_107_code, 5, some .int)
theorem co_MD_leads : CalOK M_MD_leads 3 := ⟨g_at 2049 (by decide +kernel) rfl, g_at 13 (by decide +kernel) rfl, by decide +kernel, by decide +kernel, by decide +kernel⟩
theorem pn_MD_leads : plainName M_MD_leads.1.cls = true := by decide +kernel
def M_MD_whole : pM := (⟨"CornerMapsModel", "whole", "(II)I"⟩, prog_12_method_108_code, 6, some .int)
theorem co_MD_whole : CalOK M_MD_whole 2 := ⟨g_at 2053 (by decide +kernel) rfl, g_at 13 (by decide +kernel) rfl, by decide +kernel, by decide +kernel, by decide +kernel⟩
theorem pn_MD_whole : plainName M_MD_whole.1.cls = true := by decide +kernel
def M_MD_inside : pM := (⟨"CornerMapsModel", "inside", "(II)I"⟩, prog_12_method_112_code, 14, some .int)
theorem co_MD_inside : CalOK M_MD_inside 2 := ⟨g_at 2057 (by decide +kernel) rfl, g_at 13 (by decide +kernel) rfl, by decide +kernel, by decide +kernel, by decide +kernel⟩
theorem pn_MD_inside : plainName M_MD_inside.1.cls = true := by decide +kernel
def M_MD_isOnSide : pM := (⟨"CornerMapsModel", "isOnSide", "(IIJJJ)Z"⟩, prog_12_method_111_code, 11, some .boolean)
theorem co_MD_isOnSide : CalOK M_MD_isOnSide 5 := ⟨g_at 2061 (by decide +kernel) rfl, g_at 13 (by decide +kernel) rfl, by decide +kernel, by decide +kernel, by decide +kernel⟩
theorem pn_MD_isOnSide : plainName M_MD_isOnSide.1.cls = true := by decide +kernel
def M_MD_sideOfSide : pM := (⟨"CornerMapsModel", "sideOfSide", "(IIJJJ)I"⟩, prog_12_method_109_code, 15, some .int)
theorem co_MD_sideOfSide : CalOK M_MD_sideOfSide 5 := ⟨g_at 2065 (by decide +kernel) rfl, g_at 13 (by decide +kernel) rfl, by decide +kernel, by decide +kernel, by decide +kernel⟩
theorem pn_MD_sideOfSide : plainName M_MD_sideOfSide.1.cls = true := by decide +kernel
def M_MD_isBetween : pM := (⟨"CornerMapsModel", "isBetween", "(JJJ)Z"⟩, prog_12_method_110_code, 6, some .boolean)
theorem co_MD_isBetween : CalOK M_MD_isBetween 3 := ⟨g_at 2068 (by decide +kernel) rfl, g_at 13 (by decide +kernel) rfl, by decide +kernel, by decide +kernel, by decide +kernel⟩
theorem pn_MD_isBetween : plainName M_MD_isBetween.1.cls = true := by decide +kernel
def M_MD_crossings : pM := (⟨"CornerMapsModel", "crossings", "(II)I"⟩, prog_12_method_116_code, 6, some .int)
theorem co_MD_crossings : CalOK M_MD_crossings 2 := ⟨g_at 2074 (by decide +kernel) rfl, g_at 13 (by decide +kernel) rfl, by decide +kernel, by decide +kernel, by decide +kernel⟩
theorem pn_MD_crossings : plainName M_MD_crossings.1.cls = true := by decide +kernel
def M_MD_doMeet : pM := (⟨"CornerMapsModel", "doMeet", "(IIII)Z"⟩, prog_12_method_115_code, 8, some .boolean)
theorem co_MD_doMeet : CalOK M_MD_doMeet 4 := ⟨g_at 2078 (by decide +kernel) rfl, g_at 13 (by decide +kernel) rfl, by decide +kernel, by decide +kernel, by decide +kernel⟩
theorem pn_MD_doMeet : plainName M_MD_doMeet.1.cls = true := by decide +kernel
def M_MD_isOnSideCorner : pM := (⟨"CornerMapsModel", "isOnSideCorner", "(IIII)Z"⟩, prog_12_method_113_code, 5, some .boolean)
theorem co_MD_isOnSideCorner : CalOK M_MD_isOnSideCorner 4 := ⟨g_at 2082 (by decide +kernel) rfl, g_at 13 (by decide +kernel) rfl, by decide +kernel, by decide +kernel, by decide +kernel⟩
theorem pn_MD_isOnSideCorner : plainName M_MD_isOnSideCorner.1.cls = true := by decide +kernel
def M_MD_sideOfSideCorner : pM := (⟨"CornerMapsModel", "sideOfSideCorner", "(IIII)I"⟩, prog_12_method_114_code, 5, some .int)
theorem co_MD_sideOfSideCorner : CalOK M_MD_sideOfSideCorner 4 := ⟨g_at 2086 (by decide +kernel) rfl, g_at 13 (by decide +kernel) rfl, by decide +kernel, by decide +kernel, by decide +kernel⟩
theorem pn_MD_sideOfSideCorner : plainName M_MD_sideOfSideCorner.1.cls = true := by decide +kernel
theorem sm_Long_signum : Cond.static M_Long_signum.1 ∈ gtbl := g_at 1916 (by decide +kernel) rfl
theorem sm_MD_isNone : Cond.static M_MD_isNone.1 ∈ gtbl := g_at 1992 (by decide +kernel) rfl
theorem sm_MD_isBetween : Cond.static M_MD_isBetween.1 ∈ gtbl := g_at 2067 (by decide +kernel) rfl
theorem im_MD_sideOf : Cond.instanceMethod M_MD_sideOf.1 ∈ gtbl := g_at 1913 (by decide +kernel) rfl
theorem se_MD_sideOf : Cond.selects M_MD_sideOf.1.cls M_MD_sideOf.1 M_MD_sideOf.1 ∈ gtbl := g_sel 79 (by decide +kernel) rfl
theorem im_MD_sideOfCorner : Cond.instanceMethod M_MD_sideOfCorner.1 ∈ gtbl := g_at 1924 (by decide +kernel) rfl
theorem se_MD_sideOfCorner : Cond.selects M_MD_sideOfCorner.1.cls M_MD_sideOfCorner.1 M_MD_sideOfCorner.1 ∈ gtbl := g_sel 80 (by decide +kernel) rfl
theorem im_MD_kindOfNine : Cond.instanceMethod M_MD_kindOfNine.1 ∈ gtbl := g_at 1936 (by decide +kernel) rfl
theorem se_MD_kindOfNine : Cond.selects M_MD_kindOfNine.1.cls M_MD_kindOfNine.1 M_MD_kindOfNine.1 ∈ gtbl := g_sel 81 (by decide +kernel) rfl
theorem im_MD_isNothing : Cond.instanceMethod M_MD_isNothing.1 ∈ gtbl := g_at 1940 (by decide +kernel) rfl
theorem se_MD_isNothing : Cond.selects M_MD_isNothing.1.cls M_MD_isNothing.1 M_MD_isNothing.1 ∈ gtbl := g_sel 82 (by decide +kernel) rfl
theorem im_MD_isLike : Cond.instanceMethod M_MD_isLike.1 ∈ gtbl := g_at 1957 (by decide +kernel) rfl
theorem se_MD_isLike : Cond.selects M_MD_isLike.1.cls M_MD_isLike.1 M_MD_isLike.1 ∈ gtbl := g_sel 83 (by decide +kernel) rfl
theorem im_MD_doesStay : Cond.instanceMethod M_MD_doesStay.1 ∈ gtbl := g_at 1973 (by decide +kernel) rfl
theorem se_MD_doesStay : Cond.selects M_MD_doesStay.1.cls M_MD_doesStay.1 M_MD_doesStay.1 ∈ gtbl := g_sel 84 (by decide +kernel) rfl
theorem im_MD_crossesPoints : Cond.instanceMethod M_MD_crossesPoints.1 ∈ gtbl := g_at 1985 (by decide +kernel) rfl
theorem se_MD_crossesPoints : Cond.selects M_MD_crossesPoints.1.cls M_MD_crossesPoints.1 M_MD_crossesPoints.1 ∈ gtbl := g_sel 85 (by decide +kernel) rfl
theorem im_MD_crosses : Cond.instanceMethod M_MD_crosses.1 ∈ gtbl := g_at 1989 (by decide +kernel) rfl
theorem se_MD_crosses : Cond.selects M_MD_crosses.1.cls M_MD_crosses.1 M_MD_crosses.1 ∈ gtbl := g_sel 86 (by decide +kernel) rfl
theorem im_MD_isOn : Cond.instanceMethod M_MD_isOn.1 ∈ gtbl := g_at 2000 (by decide +kernel) rfl
theorem se_MD_isOn : Cond.selects M_MD_isOn.1.cls M_MD_isOn.1 M_MD_isOn.1 ∈ gtbl := g_sel 87 (by decide +kernel) rfl
theorem im_MD_areThree : Cond.instanceMethod M_MD_areThree.1 ∈ gtbl := g_at 2012 (by decide +kernel) rfl
theorem se_MD_areThree : Cond.selects M_MD_areThree.1.cls M_MD_areThree.1 M_MD_areThree.1 ∈ gtbl := g_sel 88 (by decide +kernel) rfl
theorem im_MD_alike : Cond.instanceMethod M_MD_alike.1 ∈ gtbl := g_at 2016 (by decide +kernel) rfl
theorem se_MD_alike : Cond.selects M_MD_alike.1.cls M_MD_alike.1 M_MD_alike.1 ∈ gtbl := g_sel 89 (by decide +kernel) rfl
theorem im_MD_often : Cond.instanceMethod M_MD_often.1 ∈ gtbl := g_at 2020 (by decide +kernel) rfl
theorem se_MD_often : Cond.selects M_MD_often.1.cls M_MD_often.1 M_MD_often.1 ∈ gtbl := g_sel 90 (by decide +kernel) rfl
theorem im_MD_tracks : Cond.instanceMethod M_MD_tracks.1 ∈ gtbl := g_at 2032 (by decide +kernel) rfl
theorem se_MD_tracks : Cond.selects M_MD_tracks.1.cls M_MD_tracks.1 M_MD_tracks.1 ∈ gtbl := g_sel 91 (by decide +kernel) rfl
theorem im_MD_hasEdges : Cond.instanceMethod M_MD_hasEdges.1 ∈ gtbl := g_at 2036 (by decide +kernel) rfl
theorem se_MD_hasEdges : Cond.selects M_MD_hasEdges.1.cls M_MD_hasEdges.1 M_MD_hasEdges.1 ∈ gtbl := g_sel 92 (by decide +kernel) rfl
theorem im_MD_isAt : Cond.instanceMethod M_MD_isAt.1 ∈ gtbl := g_at 2044 (by decide +kernel) rfl
theorem se_MD_isAt : Cond.selects M_MD_isAt.1.cls M_MD_isAt.1 M_MD_isAt.1 ∈ gtbl := g_sel 93 (by decide +kernel) rfl
theorem im_MD_isOnSide : Cond.instanceMethod M_MD_isOnSide.1 ∈ gtbl := g_at 2060 (by decide +kernel) rfl
theorem se_MD_isOnSide : Cond.selects M_MD_isOnSide.1.cls M_MD_isOnSide.1 M_MD_isOnSide.1 ∈ gtbl := g_sel 94 (by decide +kernel) rfl
theorem im_MD_sideOfSide : Cond.instanceMethod M_MD_sideOfSide.1 ∈ gtbl := g_at 2064 (by decide +kernel) rfl
theorem se_MD_sideOfSide : Cond.selects M_MD_sideOfSide.1.cls M_MD_sideOfSide.1 M_MD_sideOfSide.1 ∈ gtbl := g_sel 95 (by decide +kernel) rfl
theorem im_MD_doMeet : Cond.instanceMethod M_MD_doMeet.1 ∈ gtbl := g_at 2077 (by decide +kernel) rfl
theorem se_MD_doMeet : Cond.selects M_MD_doMeet.1.cls M_MD_doMeet.1 M_MD_doMeet.1 ∈ gtbl := g_sel 96 (by decide +kernel) rfl
theorem im_MD_isOnSideCorner : Cond.instanceMethod M_MD_isOnSideCorner.1 ∈ gtbl := g_at 2081 (by decide +kernel) rfl
theorem se_MD_isOnSideCorner : Cond.selects M_MD_isOnSideCorner.1.cls M_MD_isOnSideCorner.1 M_MD_isOnSideCorner.1 ∈ gtbl := g_sel 97 (by decide +kernel) rfl
theorem im_MD_sideOfSideCorner : Cond.instanceMethod M_MD_sideOfSideCorner.1 ∈ gtbl := g_at 2085 (by decide +kernel) rfl
theorem se_MD_sideOfSideCorner : Cond.selects M_MD_sideOfSideCorner.1.cls M_MD_sideOfSideCorner.1 M_MD_sideOfSideCorner.1 ∈ gtbl := g_sel 98 (by decide +kernel) rfl
theorem L_MD_315 : Cond.methodLink "CornerMapsModel" 315 ⟨"CornerMapsModel", "sideOf", "(IJJJ)I"⟩ ∈ gtbl := g_at 1911 (by decide +kernel) rfl
theorem L_MD_311 : Cond.methodLink "CornerMapsModel" 311 ⟨"java/lang/Long", "signum", "(J)I"⟩ ∈ gtbl := g_at 1915 (by decide +kernel) rfl
theorem L_MD_319 : Cond.methodLink "CornerMapsModel" 319 ⟨"CornerMapsModel", "sideOfCorner", "(III)I"⟩ ∈ gtbl := g_at 1922 (by decide +kernel) rfl
theorem L_MD_323 : Cond.methodLink "CornerMapsModel" 323 ⟨"CornerMapsModel", "kindOfNine", "()I"⟩ ∈ gtbl := g_at 1934 (by decide +kernel) rfl
theorem L_MD_326 : Cond.methodLink "CornerMapsModel" 326 ⟨"CornerMapsModel", "isNothing", "()Z"⟩ ∈ gtbl := g_at 1938 (by decide +kernel) rfl
theorem L_MD_329 : Cond.constantLong "CornerMapsModel" 329 (1000000 : Int64) ∈ gtbl := g_at 1946 (by decide +kernel) rfl
theorem L_MD_331 : Cond.methodLink "CornerMapsModel" 331 ⟨"CornerMapsModel", "isLike", "(I)Z"⟩ ∈ gtbl := g_at 1955 (by decide +kernel) rfl
theorem L_MD_334 : Cond.methodLink "CornerMapsModel" 334 ⟨"CornerMapsModel", "doesStay", "(II)Z"⟩ ∈ gtbl := g_at 1971 (by decide +kernel) rfl
theorem L_MD_341 : Cond.methodLink "CornerMapsModel" 341 ⟨"CornerMapsModel", "crossesPoints", "([JII)V"⟩ ∈ gtbl := g_at 1983 (by decide +kernel) rfl
theorem L_MD_345 : Cond.methodLink "CornerMapsModel" 345 ⟨"CornerMapsModel", "isNone", "([J)Z"⟩ ∈ gtbl := g_at 1991 (by decide +kernel) rfl
theorem L_MD_337 : Cond.methodLink "CornerMapsModel" 337 ⟨"CornerMapsModel", "crosses", "([JJJJJJJ)V"⟩ ∈ gtbl := g_at 1987 (by decide +kernel) rfl
theorem L_MD_349 : Cond.methodLink "CornerMapsModel" 349 ⟨"CornerMapsModel", "isOn", "([JI)Z"⟩ ∈ gtbl := g_at 1998 (by decide +kernel) rfl
theorem L_MD_356 : Cond.methodLink "CornerMapsModel" 356 ⟨"CornerMapsModel", "areThree", "(III)Z"⟩ ∈ gtbl := g_at 2010 (by decide +kernel) rfl
theorem L_MD_353 : Cond.methodLink "CornerMapsModel" 353 ⟨"CornerMapsModel", "alike", "(II)Z"⟩ ∈ gtbl := g_at 2014 (by decide +kernel) rfl
theorem L_MD_359 : Cond.methodLink "CornerMapsModel" 359 ⟨"CornerMapsModel", "often", "(II)J"⟩ ∈ gtbl := g_at 2018 (by decide +kernel) rfl
theorem L_MD_365 : Cond.methodLink "CornerMapsModel" 365 ⟨"CornerMapsModel", "tracks", "(III)Z"⟩ ∈ gtbl := g_at 2030 (by decide +kernel) rfl
theorem L_MD_362 : Cond.methodLink "CornerMapsModel" 362 ⟨"CornerMapsModel", "hasEdges", "()Z"⟩ ∈ gtbl := g_at 2034 (by decide +kernel) rfl
theorem L_MD_368 : Cond.methodLink "CornerMapsModel" 368 ⟨"CornerMapsModel", "isAt", "(I)Z"⟩ ∈ gtbl := g_at 2042 (by decide +kernel) rfl
theorem L_MD_385 : Cond.methodLink "CornerMapsModel" 385 ⟨"CornerMapsModel", "isOnSide", "(IIJJJ)Z"⟩ ∈ gtbl := g_at 2058 (by decide +kernel) rfl
theorem L_MD_377 : Cond.methodLink "CornerMapsModel" 377 ⟨"CornerMapsModel", "sideOfSide", "(IIJJJ)I"⟩ ∈ gtbl := g_at 2062 (by decide +kernel) rfl
theorem L_MD_381 : Cond.methodLink "CornerMapsModel" 381 ⟨"CornerMapsModel", "isBetween", "(JJJ)Z"⟩ ∈ gtbl := g_at 2066 (by decide +kernel) rfl
theorem L_MD_371 : Cond.methodLink "CornerMapsModel" 371 ⟨"java/lang/Math", "min", "(JJ)J"⟩ ∈ gtbl := g_at 2069 (by decide +kernel) rfl
theorem L_MD_374 : Cond.methodLink "CornerMapsModel" 374 ⟨"java/lang/Math", "max", "(JJ)J"⟩ ∈ gtbl := g_at 2070 (by decide +kernel) rfl
theorem L_MD_397 : Cond.methodLink "CornerMapsModel" 397 ⟨"CornerMapsModel", "doMeet", "(IIII)Z"⟩ ∈ gtbl := g_at 2075 (by decide +kernel) rfl
theorem L_MD_389 : Cond.methodLink "CornerMapsModel" 389 ⟨"CornerMapsModel", "isOnSideCorner", "(IIII)Z"⟩ ∈ gtbl := g_at 2079 (by decide +kernel) rfl
theorem L_MD_393 : Cond.methodLink "CornerMapsModel" 393 ⟨"CornerMapsModel", "sideOfSideCorner", "(IIII)I"⟩ ∈ gtbl := g_at 2083 (by decide +kernel) rfl
theorem F_MD_horizon_0 : Jvm.Free.DS.Facts prog_12_method_72_code 0 [(.aload_n 0, 1), (.iconst 0, 1), (.putfield 74, 3), (.aload_n 0, 1), (.iload_n 1, 1), (.invokevirtual 241, 3), (.ifCond .eq (10), 3), (.iload_n 2, 1), (.invokestatic 244, 3), (.ifCond .ne (7), 3), (.ldc2_w 307, 3), (.lreturn, 1), (.aload_n 0, 1), (.aload_n 0, 1), (.getfield 21, 3), (.bipush (9), 2), (.iload_n 1, 1), (.imul, 1), (.bipush (6), 2), (.iadd, 1), (.laload, 1), (.aload_n 0, 1), (.getfield 21, 3), (.bipush (9), 2), (.iload_n 1, 1), (.imul, 1), (.bipush (7), 2), (.iadd, 1), (.laload, 1), (.aload_n 0, 1), (.getfield 21, 3), (.bipush (9), 2)] := Jvm.Free.DS.facts 0 _ (by decide +kernel) (by decide +kernel)
theorem d_MD_horizon_0 : decode prog_12_method_72_code 0 = .ok (.aload_n 0, 1) := F_MD_horizon_0.1
theorem d_MD_horizon_1 : decode prog_12_method_72_code 1 = .ok (.iconst 0, 1) := F_MD_horizon_0.2.1
theorem d_MD_horizon_2 : decode prog_12_method_72_code 2 = .ok (.putfield 74, 3) := F_MD_horizon_0.2.2.1
theorem d_MD_horizon_5 : decode prog_12_method_72_code 5 = .ok (.aload_n 0, 1) := F_MD_horizon_0.2.2.2.1
theorem d_MD_horizon_6 : decode prog_12_method_72_code 6 = .ok (.iload_n 1, 1) := F_MD_horizon_0.2.2.2.2.1
theorem d_MD_horizon_7 : decode prog_12_method_72_code 7 = .ok (.invokevirtual 241, 3) := F_MD_horizon_0.2.2.2.2.2.1
theorem d_MD_horizon_10 : decode prog_12_method_72_code 10 = .ok (.ifCond .eq (10), 3) := F_MD_horizon_0.2.2.2.2.2.2.1
theorem d_MD_horizon_13 : decode prog_12_method_72_code 13 = .ok (.iload_n 2, 1) := F_MD_horizon_0.2.2.2.2.2.2.2.1
theorem d_MD_horizon_14 : decode prog_12_method_72_code 14 = .ok (.invokestatic 244, 3) := F_MD_horizon_0.2.2.2.2.2.2.2.2.1
theorem d_MD_horizon_17 : decode prog_12_method_72_code 17 = .ok (.ifCond .ne (7), 3) := F_MD_horizon_0.2.2.2.2.2.2.2.2.2.1
theorem d_MD_horizon_20 : decode prog_12_method_72_code 20 = .ok (.ldc2_w 307, 3) := F_MD_horizon_0.2.2.2.2.2.2.2.2.2.2.1
theorem d_MD_horizon_23 : decode prog_12_method_72_code 23 = .ok (.lreturn, 1) := F_MD_horizon_0.2.2.2.2.2.2.2.2.2.2.2.1
theorem d_MD_horizon_24 : decode prog_12_method_72_code 24 = .ok (.aload_n 0, 1) := F_MD_horizon_0.2.2.2.2.2.2.2.2.2.2.2.2.1
theorem d_MD_horizon_25 : decode prog_12_method_72_code 25 = .ok (.aload_n 0, 1) := F_MD_horizon_0.2.2.2.2.2.2.2.2.2.2.2.2.2.1
theorem d_MD_horizon_26 : decode prog_12_method_72_code 26 = .ok (.getfield 21, 3) := F_MD_horizon_0.2.2.2.2.2.2.2.2.2.2.2.2.2.2.1
theorem d_MD_horizon_29 : decode prog_12_method_72_code 29 = .ok (.bipush (9), 2) := F_MD_horizon_0.2.2.2.2.2.2.2.2.2.2.2.2.2.2.2.1
theorem d_MD_horizon_31 : decode prog_12_method_72_code 31 = .ok (.iload_n 1, 1) := F_MD_horizon_0.2.2.2.2.2.2.2.2.2.2.2.2.2.2.2.2.1
theorem d_MD_horizon_32 : decode prog_12_method_72_code 32 = .ok (.imul, 1) := F_MD_horizon_0.2.2.2.2.2.2.2.2.2.2.2.2.2.2.2.2.2.1
theorem d_MD_horizon_33 : decode prog_12_method_72_code 33 = .ok (.bipush (6), 2) := F_MD_horizon_0.2.2.2.2.2.2.2.2.2.2.2.2.2.2.2.2.2.2.1
theorem d_MD_horizon_35 : decode prog_12_method_72_code 35 = .ok (.iadd, 1) := F_MD_horizon_0.2.2.2.2.2.2.2.2.2.2.2.2.2.2.2.2.2.2.2.1
theorem d_MD_horizon_36 : decode prog_12_method_72_code 36 = .ok (.laload, 1) := F_MD_horizon_0.2.2.2.2.2.2.2.2.2.2.2.2.2.2.2.2.2.2.2.2.1
theorem d_MD_horizon_37 : decode prog_12_method_72_code 37 = .ok (.aload_n 0, 1) := F_MD_horizon_0.2.2.2.2.2.2.2.2.2.2.2.2.2.2.2.2.2.2.2.2.2.1
theorem d_MD_horizon_38 : decode prog_12_method_72_code 38 = .ok (.getfield 21, 3) := F_MD_horizon_0.2.2.2.2.2.2.2.2.2.2.2.2.2.2.2.2.2.2.2.2.2.2.1
theorem d_MD_horizon_41 : decode prog_12_method_72_code 41 = .ok (.bipush (9), 2) := F_MD_horizon_0.2.2.2.2.2.2.2.2.2.2.2.2.2.2.2.2.2.2.2.2.2.2.2.1
theorem d_MD_horizon_43 : decode prog_12_method_72_code 43 = .ok (.iload_n 1, 1) := F_MD_horizon_0.2.2.2.2.2.2.2.2.2.2.2.2.2.2.2.2.2.2.2.2.2.2.2.2.1
theorem d_MD_horizon_44 : decode prog_12_method_72_code 44 = .ok (.imul, 1) := F_MD_horizon_0.2.2.2.2.2.2.2.2.2.2.2.2.2.2.2.2.2.2.2.2.2.2.2.2.2.1
theorem d_MD_horizon_45 : decode prog_12_method_72_code 45 = .ok (.bipush (7), 2) := F_MD_horizon_0.2.2.2.2.2.2.2.2.2.2.2.2.2.2.2.2.2.2.2.2.2.2.2.2.2.2.1
theorem d_MD_horizon_47 : decode prog_12_method_72_code 47 = .ok (.iadd, 1) := F_MD_horizon_0.2.2.2.2.2.2.2.2.2.2.2.2.2.2.2.2.2.2.2.2.2.2.2.2.2.2.2.1
theorem d_MD_horizon_48 : decode prog_12_method_72_code 48 = .ok (.laload, 1) := F_MD_horizon_0.2.2.2.2.2.2.2.2.2.2.2.2.2.2.2.2.2.2.2.2.2.2.2.2.2.2.2.2.1
theorem d_MD_horizon_49 : decode prog_12_method_72_code 49 = .ok (.aload_n 0, 1) := F_MD_horizon_0.2.2.2.2.2.2.2.2.2.2.2.2.2.2.2.2.2.2.2.2.2.2.2.2.2.2.2.2.2.1
theorem d_MD_horizon_50 : decode prog_12_method_72_code 50 = .ok (.getfield 21, 3) := F_MD_horizon_0.2.2.2.2.2.2.2.2.2.2.2.2.2.2.2.2.2.2.2.2.2.2.2.2.2.2.2.2.2.2.1
theorem d_MD_horizon_53 : decode prog_12_method_72_code 53 = .ok (.bipush (9), 2) := F_MD_horizon_0.2.2.2.2.2.2.2.2.2.2.2.2.2.2.2.2.2.2.2.2.2.2.2.2.2.2.2.2.2.2.2.1
theorem F_MD_horizon_55 : Jvm.Free.DS.Facts prog_12_method_72_code 55 [(.iload_n 1, 1), (.imul, 1), (.bipush (8), 2), (.iadd, 1), (.laload, 1), (.invokevirtual 179, 3), (.aload_n 0, 1), (.getfield 50, 3), (.iload_n 2, 1), (.laload, 1), (.lreturn, 1)] := Jvm.Free.DS.facts 55 _ (by decide +kernel) (by decide +kernel)
theorem d_MD_horizon_55 : decode prog_12_method_72_code 55 = .ok (.iload_n 1, 1) := F_MD_horizon_55.1
theorem d_MD_horizon_56 : decode prog_12_method_72_code 56 = .ok (.imul, 1) := F_MD_horizon_55.2.1
theorem d_MD_horizon_57 : decode prog_12_method_72_code 57 = .ok (.bipush (8), 2) := F_MD_horizon_55.2.2.1
theorem d_MD_horizon_59 : decode prog_12_method_72_code 59 = .ok (.iadd, 1) := F_MD_horizon_55.2.2.2.1
theorem d_MD_horizon_60 : decode prog_12_method_72_code 60 = .ok (.laload, 1) := F_MD_horizon_55.2.2.2.2.1
theorem d_MD_horizon_61 : decode prog_12_method_72_code 61 = .ok (.invokevirtual 179, 3) := F_MD_horizon_55.2.2.2.2.2.1
theorem d_MD_horizon_64 : decode prog_12_method_72_code 64 = .ok (.aload_n 0, 1) := F_MD_horizon_55.2.2.2.2.2.2.1
theorem d_MD_horizon_65 : decode prog_12_method_72_code 65 = .ok (.getfield 50, 3) := F_MD_horizon_55.2.2.2.2.2.2.2.1
theorem d_MD_horizon_68 : decode prog_12_method_72_code 68 = .ok (.iload_n 2, 1) := F_MD_horizon_55.2.2.2.2.2.2.2.2.1
theorem d_MD_horizon_69 : decode prog_12_method_72_code 69 = .ok (.laload, 1) := F_MD_horizon_55.2.2.2.2.2.2.2.2.2.1
theorem d_MD_horizon_70 : decode prog_12_method_72_code 70 = .ok (.lreturn, 1) := F_MD_horizon_55.2.2.2.2.2.2.2.2.2.2.1
theorem F_MD_vanishing_0 : Jvm.Free.DS.Facts prog_12_method_73_code 0 [(.aload_n 0, 1), (.iconst 0, 1), (.putfield 74, 3), (.aload_n 0, 1), (.iload_n 1, 1), (.invokevirtual 241, 3), (.ifCond .eq (10), 3), (.iload_n 2, 1), (.invokestatic 244, 3), (.ifCond .ne (7), 3), (.ldc2_w 307, 3), (.lreturn, 1), (.aload_n 0, 1), (.iload_n 1, 1), (.invokevirtual 280, 3), (.aload_n 0, 1), (.aload_n 0, 1), (.getfield 41, 3), (.bipush (6), 2), (.laload, 1), (.aload_n 0, 1), (.getfield 41, 3), (.bipush (7), 2), (.laload, 1), (.aload_n 0, 1), (.getfield 41, 3), (.bipush (8), 2), (.laload, 1), (.invokevirtual 179, 3), (.aload_n 0, 1), (.getfield 50, 3), (.iload_n 2, 1)] := Jvm.Free.DS.facts 0 _ (by decide +kernel) (by decide +kernel)
theorem d_MD_vanishing_0 : decode prog_12_method_73_code 0 = .ok (.aload_n 0, 1) := F_MD_vanishing_0.1
theorem d_MD_vanishing_1 : decode prog_12_method_73_code 1 = .ok (.iconst 0, 1) := F_MD_vanishing_0.2.1
theorem d_MD_vanishing_2 : decode prog_12_method_73_code 2 = .ok (.putfield 74, 3) := F_MD_vanishing_0.2.2.1
theorem d_MD_vanishing_5 : decode prog_12_method_73_code 5 = .ok (.aload_n 0, 1) := F_MD_vanishing_0.2.2.2.1
theorem d_MD_vanishing_6 : decode prog_12_method_73_code 6 = .ok (.iload_n 1, 1) := F_MD_vanishing_0.2.2.2.2.1
theorem d_MD_vanishing_7 : decode prog_12_method_73_code 7 = .ok (.invokevirtual 241, 3) := F_MD_vanishing_0.2.2.2.2.2.1
theorem d_MD_vanishing_10 : decode prog_12_method_73_code 10 = .ok (.ifCond .eq (10), 3) := F_MD_vanishing_0.2.2.2.2.2.2.1
theorem d_MD_vanishing_13 : decode prog_12_method_73_code 13 = .ok (.iload_n 2, 1) := F_MD_vanishing_0.2.2.2.2.2.2.2.1
theorem d_MD_vanishing_14 : decode prog_12_method_73_code 14 = .ok (.invokestatic 244, 3) := F_MD_vanishing_0.2.2.2.2.2.2.2.2.1
theorem d_MD_vanishing_17 : decode prog_12_method_73_code 17 = .ok (.ifCond .ne (7), 3) := F_MD_vanishing_0.2.2.2.2.2.2.2.2.2.1
theorem d_MD_vanishing_20 : decode prog_12_method_73_code 20 = .ok (.ldc2_w 307, 3) := F_MD_vanishing_0.2.2.2.2.2.2.2.2.2.2.1
theorem d_MD_vanishing_23 : decode prog_12_method_73_code 23 = .ok (.lreturn, 1) := F_MD_vanishing_0.2.2.2.2.2.2.2.2.2.2.2.1
theorem d_MD_vanishing_24 : decode prog_12_method_73_code 24 = .ok (.aload_n 0, 1) := F_MD_vanishing_0.2.2.2.2.2.2.2.2.2.2.2.2.1
theorem d_MD_vanishing_25 : decode prog_12_method_73_code 25 = .ok (.iload_n 1, 1) := F_MD_vanishing_0.2.2.2.2.2.2.2.2.2.2.2.2.2.1
theorem d_MD_vanishing_26 : decode prog_12_method_73_code 26 = .ok (.invokevirtual 280, 3) := F_MD_vanishing_0.2.2.2.2.2.2.2.2.2.2.2.2.2.2.1
theorem d_MD_vanishing_29 : decode prog_12_method_73_code 29 = .ok (.aload_n 0, 1) := F_MD_vanishing_0.2.2.2.2.2.2.2.2.2.2.2.2.2.2.2.1
theorem d_MD_vanishing_30 : decode prog_12_method_73_code 30 = .ok (.aload_n 0, 1) := F_MD_vanishing_0.2.2.2.2.2.2.2.2.2.2.2.2.2.2.2.2.1
theorem d_MD_vanishing_31 : decode prog_12_method_73_code 31 = .ok (.getfield 41, 3) := F_MD_vanishing_0.2.2.2.2.2.2.2.2.2.2.2.2.2.2.2.2.2.1
theorem d_MD_vanishing_34 : decode prog_12_method_73_code 34 = .ok (.bipush (6), 2) := F_MD_vanishing_0.2.2.2.2.2.2.2.2.2.2.2.2.2.2.2.2.2.2.1
theorem d_MD_vanishing_36 : decode prog_12_method_73_code 36 = .ok (.laload, 1) := F_MD_vanishing_0.2.2.2.2.2.2.2.2.2.2.2.2.2.2.2.2.2.2.2.1
theorem d_MD_vanishing_37 : decode prog_12_method_73_code 37 = .ok (.aload_n 0, 1) := F_MD_vanishing_0.2.2.2.2.2.2.2.2.2.2.2.2.2.2.2.2.2.2.2.2.1
theorem d_MD_vanishing_38 : decode prog_12_method_73_code 38 = .ok (.getfield 41, 3) := F_MD_vanishing_0.2.2.2.2.2.2.2.2.2.2.2.2.2.2.2.2.2.2.2.2.2.1
theorem d_MD_vanishing_41 : decode prog_12_method_73_code 41 = .ok (.bipush (7), 2) := F_MD_vanishing_0.2.2.2.2.2.2.2.2.2.2.2.2.2.2.2.2.2.2.2.2.2.2.1
theorem d_MD_vanishing_43 : decode prog_12_method_73_code 43 = .ok (.laload, 1) := F_MD_vanishing_0.2.2.2.2.2.2.2.2.2.2.2.2.2.2.2.2.2.2.2.2.2.2.2.1
theorem d_MD_vanishing_44 : decode prog_12_method_73_code 44 = .ok (.aload_n 0, 1) := F_MD_vanishing_0.2.2.2.2.2.2.2.2.2.2.2.2.2.2.2.2.2.2.2.2.2.2.2.2.1
theorem d_MD_vanishing_45 : decode prog_12_method_73_code 45 = .ok (.getfield 41, 3) := F_MD_vanishing_0.2.2.2.2.2.2.2.2.2.2.2.2.2.2.2.2.2.2.2.2.2.2.2.2.2.1
theorem d_MD_vanishing_48 : decode prog_12_method_73_code 48 = .ok (.bipush (8), 2) := F_MD_vanishing_0.2.2.2.2.2.2.2.2.2.2.2.2.2.2.2.2.2.2.2.2.2.2.2.2.2.2.1
theorem d_MD_vanishing_50 : decode prog_12_method_73_code 50 = .ok (.laload, 1) := F_MD_vanishing_0.2.2.2.2.2.2.2.2.2.2.2.2.2.2.2.2.2.2.2.2.2.2.2.2.2.2.2.1
theorem d_MD_vanishing_51 : decode prog_12_method_73_code 51 = .ok (.invokevirtual 179, 3) := F_MD_vanishing_0.2.2.2.2.2.2.2.2.2.2.2.2.2.2.2.2.2.2.2.2.2.2.2.2.2.2.2.2.1
theorem d_MD_vanishing_54 : decode prog_12_method_73_code 54 = .ok (.aload_n 0, 1) := F_MD_vanishing_0.2.2.2.2.2.2.2.2.2.2.2.2.2.2.2.2.2.2.2.2.2.2.2.2.2.2.2.2.2.1
theorem d_MD_vanishing_55 : decode prog_12_method_73_code 55 = .ok (.getfield 50, 3) := F_MD_vanishing_0.2.2.2.2.2.2.2.2.2.2.2.2.2.2.2.2.2.2.2.2.2.2.2.2.2.2.2.2.2.2.1
theorem d_MD_vanishing_58 : decode prog_12_method_73_code 58 = .ok (.iload_n 2, 1) := F_MD_vanishing_0.2.2.2.2.2.2.2.2.2.2.2.2.2.2.2.2.2.2.2.2.2.2.2.2.2.2.2.2.2.2.2.1
theorem F_MD_vanishing_59 : Jvm.Free.DS.Facts prog_12_method_73_code 59 [(.laload, 1), (.lreturn, 1)] := Jvm.Free.DS.facts 59 _ (by decide +kernel) (by decide +kernel)
theorem d_MD_vanishing_59 : decode prog_12_method_73_code 59 = .ok (.laload, 1) := F_MD_vanishing_59.1
theorem d_MD_vanishing_60 : decode prog_12_method_73_code 60 = .ok (.lreturn, 1) := F_MD_vanishing_59.2.1
theorem F_MD_cut_0 : Jvm.Free.DS.Facts prog_12_method_75_code 0 [(.aload_n 0, 1), (.iconst 0, 1), (.putfield 74, 3), (.aload_n 0, 1), (.iload_n 1, 1), (.invokevirtual 241, 3), (.ifCond .eq (19), 3), (.aload_n 0, 1), (.iload_n 2, 1), (.invokevirtual 247, 3), (.ifCond .eq (11), 3), (.aload_n 0, 1), (.iload_n 3, 1), (.invokevirtual 247, 3), (.ifCond .ne (5), 3), (.iconst (-1), 1), (.ireturn, 1), (.aload_n 0, 1), (.iload_n 2, 1), (.iconst 2, 1), (.invokevirtual 250, 3), (.lconst 0, 1), (.lcmp, 1), (.ifCond .eq (14), 3), (.aload_n 0, 1), (.iload_n 3, 1), (.iconst 2, 1), (.invokevirtual 250, 3), (.lconst 0, 1), (.lcmp, 1), (.ifCond .ne (6), 3), (.bipush (-2), 2)] := Jvm.Free.DS.facts 0 _ (by decide +kernel) (by decide +kernel)
theorem d_MD_cut_0 : decode prog_12_method_75_code 0 = .ok (.aload_n 0, 1) := F_MD_cut_0.1
theorem d_MD_cut_1 : decode prog_12_method_75_code 1 = .ok (.iconst 0, 1) := F_MD_cut_0.2.1
theorem d_MD_cut_2 : decode prog_12_method_75_code 2 = .ok (.putfield 74, 3) := F_MD_cut_0.2.2.1
theorem d_MD_cut_5 : decode prog_12_method_75_code 5 = .ok (.aload_n 0, 1) := F_MD_cut_0.2.2.2.1
theorem d_MD_cut_6 : decode prog_12_method_75_code 6 = .ok (.iload_n 1, 1) := F_MD_cut_0.2.2.2.2.1
theorem d_MD_cut_7 : decode prog_12_method_75_code 7 = .ok (.invokevirtual 241, 3) := F_MD_cut_0.2.2.2.2.2.1
theorem d_MD_cut_10 : decode prog_12_method_75_code 10 = .ok (.ifCond .eq (19), 3) := F_MD_cut_0.2.2.2.2.2.2.1
theorem d_MD_cut_13 : decode prog_12_method_75_code 13 = .ok (.aload_n 0, 1) := F_MD_cut_0.2.2.2.2.2.2.2.1
theorem d_MD_cut_14 : decode prog_12_method_75_code 14 = .ok (.iload_n 2, 1) := F_MD_cut_0.2.2.2.2.2.2.2.2.1
theorem d_MD_cut_15 : decode prog_12_method_75_code 15 = .ok (.invokevirtual 247, 3) := F_MD_cut_0.2.2.2.2.2.2.2.2.2.1
theorem d_MD_cut_18 : decode prog_12_method_75_code 18 = .ok (.ifCond .eq (11), 3) := F_MD_cut_0.2.2.2.2.2.2.2.2.2.2.1
theorem d_MD_cut_21 : decode prog_12_method_75_code 21 = .ok (.aload_n 0, 1) := F_MD_cut_0.2.2.2.2.2.2.2.2.2.2.2.1
theorem d_MD_cut_22 : decode prog_12_method_75_code 22 = .ok (.iload_n 3, 1) := F_MD_cut_0.2.2.2.2.2.2.2.2.2.2.2.2.1
theorem d_MD_cut_23 : decode prog_12_method_75_code 23 = .ok (.invokevirtual 247, 3) := F_MD_cut_0.2.2.2.2.2.2.2.2.2.2.2.2.2.1
theorem d_MD_cut_26 : decode prog_12_method_75_code 26 = .ok (.ifCond .ne (5), 3) := F_MD_cut_0.2.2.2.2.2.2.2.2.2.2.2.2.2.2.1
theorem d_MD_cut_29 : decode prog_12_method_75_code 29 = .ok (.iconst (-1), 1) := F_MD_cut_0.2.2.2.2.2.2.2.2.2.2.2.2.2.2.2.1
theorem d_MD_cut_30 : decode prog_12_method_75_code 30 = .ok (.ireturn, 1) := F_MD_cut_0.2.2.2.2.2.2.2.2.2.2.2.2.2.2.2.2.1
theorem d_MD_cut_31 : decode prog_12_method_75_code 31 = .ok (.aload_n 0, 1) := F_MD_cut_0.2.2.2.2.2.2.2.2.2.2.2.2.2.2.2.2.2.1
theorem d_MD_cut_32 : decode prog_12_method_75_code 32 = .ok (.iload_n 2, 1) := F_MD_cut_0.2.2.2.2.2.2.2.2.2.2.2.2.2.2.2.2.2.2.1
theorem d_MD_cut_33 : decode prog_12_method_75_code 33 = .ok (.iconst 2, 1) := F_MD_cut_0.2.2.2.2.2.2.2.2.2.2.2.2.2.2.2.2.2.2.2.1
theorem d_MD_cut_34 : decode prog_12_method_75_code 34 = .ok (.invokevirtual 250, 3) := F_MD_cut_0.2.2.2.2.2.2.2.2.2.2.2.2.2.2.2.2.2.2.2.2.1
theorem d_MD_cut_37 : decode prog_12_method_75_code 37 = .ok (.lconst 0, 1) := F_MD_cut_0.2.2.2.2.2.2.2.2.2.2.2.2.2.2.2.2.2.2.2.2.2.1
theorem d_MD_cut_38 : decode prog_12_method_75_code 38 = .ok (.lcmp, 1) := F_MD_cut_0.2.2.2.2.2.2.2.2.2.2.2.2.2.2.2.2.2.2.2.2.2.2.1
theorem d_MD_cut_39 : decode prog_12_method_75_code 39 = .ok (.ifCond .eq (14), 3) := F_MD_cut_0.2.2.2.2.2.2.2.2.2.2.2.2.2.2.2.2.2.2.2.2.2.2.2.1
theorem d_MD_cut_42 : decode prog_12_method_75_code 42 = .ok (.aload_n 0, 1) := F_MD_cut_0.2.2.2.2.2.2.2.2.2.2.2.2.2.2.2.2.2.2.2.2.2.2.2.2.1
theorem d_MD_cut_43 : decode prog_12_method_75_code 43 = .ok (.iload_n 3, 1) := F_MD_cut_0.2.2.2.2.2.2.2.2.2.2.2.2.2.2.2.2.2.2.2.2.2.2.2.2.2.1
theorem d_MD_cut_44 : decode prog_12_method_75_code 44 = .ok (.iconst 2, 1) := F_MD_cut_0.2.2.2.2.2.2.2.2.2.2.2.2.2.2.2.2.2.2.2.2.2.2.2.2.2.2.1
theorem d_MD_cut_45 : decode prog_12_method_75_code 45 = .ok (.invokevirtual 250, 3) := F_MD_cut_0.2.2.2.2.2.2.2.2.2.2.2.2.2.2.2.2.2.2.2.2.2.2.2.2.2.2.2.1
theorem d_MD_cut_48 : decode prog_12_method_75_code 48 = .ok (.lconst 0, 1) := F_MD_cut_0.2.2.2.2.2.2.2.2.2.2.2.2.2.2.2.2.2.2.2.2.2.2.2.2.2.2.2.2.1
theorem d_MD_cut_49 : decode prog_12_method_75_code 49 = .ok (.lcmp, 1) := F_MD_cut_0.2.2.2.2.2.2.2.2.2.2.2.2.2.2.2.2.2.2.2.2.2.2.2.2.2.2.2.2.2.1
theorem d_MD_cut_50 : decode prog_12_method_75_code 50 = .ok (.ifCond .ne (6), 3) := F_MD_cut_0.2.2.2.2.2.2.2.2.2.2.2.2.2.2.2.2.2.2.2.2.2.2.2.2.2.2.2.2.2.2.1
theorem d_MD_cut_53 : decode prog_12_method_75_code 53 = .ok (.bipush (-2), 2) := F_MD_cut_0.2.2.2.2.2.2.2.2.2.2.2.2.2.2.2.2.2.2.2.2.2.2.2.2.2.2.2.2.2.2.2.1
theorem F_MD_cut_55 : Jvm.Free.DS.Facts prog_12_method_75_code 55 [(.ireturn, 1), (.aload_n 0, 1), (.iload_n 1, 1), (.aload_n 0, 1), (.iload_n 2, 1), (.iconst 0, 1), (.invokevirtual 250, 3), (.aload_n 0, 1), (.iload_n 2, 1), (.iconst 1, 1), (.invokevirtual 250, 3), (.aload_n 0, 1), (.iload_n 2, 1), (.iconst 2, 1), (.invokevirtual 250, 3), (.invokevirtual 315, 3), (.istore 4, 2), (.iload 4, 2), (.aload_n 0, 1), (.iload_n 1, 1), (.aload_n 0, 1), (.iload_n 3, 1), (.iconst 0, 1), (.invokevirtual 250, 3), (.aload_n 0, 1), (.iload_n 3, 1), (.iconst 1, 1), (.invokevirtual 250, 3), (.aload_n 0, 1), (.iload_n 3, 1), (.iconst 2, 1), (.invokevirtual 250, 3)] := Jvm.Free.DS.facts 55 _ (by decide +kernel) (by decide +kernel)
theorem d_MD_cut_55 : decode prog_12_method_75_code 55 = .ok (.ireturn, 1) := F_MD_cut_55.1
theorem d_MD_cut_56 : decode prog_12_method_75_code 56 = .ok (.aload_n 0, 1) := F_MD_cut_55.2.1
theorem d_MD_cut_57 : decode prog_12_method_75_code 57 = .ok (.iload_n 1, 1) := F_MD_cut_55.2.2.1
theorem d_MD_cut_58 : decode prog_12_method_75_code 58 = .ok (.aload_n 0, 1) := F_MD_cut_55.2.2.2.1
theorem d_MD_cut_59 : decode prog_12_method_75_code 59 = .ok (.iload_n 2, 1) := F_MD_cut_55.2.2.2.2.1
theorem d_MD_cut_60 : decode prog_12_method_75_code 60 = .ok (.iconst 0, 1) := F_MD_cut_55.2.2.2.2.2.1
theorem d_MD_cut_61 : decode prog_12_method_75_code 61 = .ok (.invokevirtual 250, 3) := F_MD_cut_55.2.2.2.2.2.2.1
theorem d_MD_cut_64 : decode prog_12_method_75_code 64 = .ok (.aload_n 0, 1) := F_MD_cut_55.2.2.2.2.2.2.2.1
theorem d_MD_cut_65 : decode prog_12_method_75_code 65 = .ok (.iload_n 2, 1) := F_MD_cut_55.2.2.2.2.2.2.2.2.1
theorem d_MD_cut_66 : decode prog_12_method_75_code 66 = .ok (.iconst 1, 1) := F_MD_cut_55.2.2.2.2.2.2.2.2.2.1
theorem d_MD_cut_67 : decode prog_12_method_75_code 67 = .ok (.invokevirtual 250, 3) := F_MD_cut_55.2.2.2.2.2.2.2.2.2.2.1
theorem d_MD_cut_70 : decode prog_12_method_75_code 70 = .ok (.aload_n 0, 1) := F_MD_cut_55.2.2.2.2.2.2.2.2.2.2.2.1
theorem d_MD_cut_71 : decode prog_12_method_75_code 71 = .ok (.iload_n 2, 1) := F_MD_cut_55.2.2.2.2.2.2.2.2.2.2.2.2.1
theorem d_MD_cut_72 : decode prog_12_method_75_code 72 = .ok (.iconst 2, 1) := F_MD_cut_55.2.2.2.2.2.2.2.2.2.2.2.2.2.1
theorem d_MD_cut_73 : decode prog_12_method_75_code 73 = .ok (.invokevirtual 250, 3) := F_MD_cut_55.2.2.2.2.2.2.2.2.2.2.2.2.2.2.1
theorem d_MD_cut_76 : decode prog_12_method_75_code 76 = .ok (.invokevirtual 315, 3) := F_MD_cut_55.2.2.2.2.2.2.2.2.2.2.2.2.2.2.2.1
theorem d_MD_cut_79 : decode prog_12_method_75_code 79 = .ok (.istore 4, 2) := F_MD_cut_55.2.2.2.2.2.2.2.2.2.2.2.2.2.2.2.2.1
theorem d_MD_cut_81 : decode prog_12_method_75_code 81 = .ok (.iload 4, 2) := F_MD_cut_55.2.2.2.2.2.2.2.2.2.2.2.2.2.2.2.2.2.1
theorem d_MD_cut_83 : decode prog_12_method_75_code 83 = .ok (.aload_n 0, 1) := F_MD_cut_55.2.2.2.2.2.2.2.2.2.2.2.2.2.2.2.2.2.2.1
theorem d_MD_cut_84 : decode prog_12_method_75_code 84 = .ok (.iload_n 1, 1) := F_MD_cut_55.2.2.2.2.2.2.2.2.2.2.2.2.2.2.2.2.2.2.2.1
theorem d_MD_cut_85 : decode prog_12_method_75_code 85 = .ok (.aload_n 0, 1) := F_MD_cut_55.2.2.2.2.2.2.2.2.2.2.2.2.2.2.2.2.2.2.2.2.1
theorem d_MD_cut_86 : decode prog_12_method_75_code 86 = .ok (.iload_n 3, 1) := F_MD_cut_55.2.2.2.2.2.2.2.2.2.2.2.2.2.2.2.2.2.2.2.2.2.1
theorem d_MD_cut_87 : decode prog_12_method_75_code 87 = .ok (.iconst 0, 1) := F_MD_cut_55.2.2.2.2.2.2.2.2.2.2.2.2.2.2.2.2.2.2.2.2.2.2.1
theorem d_MD_cut_88 : decode prog_12_method_75_code 88 = .ok (.invokevirtual 250, 3) := F_MD_cut_55.2.2.2.2.2.2.2.2.2.2.2.2.2.2.2.2.2.2.2.2.2.2.2.1
theorem d_MD_cut_91 : decode prog_12_method_75_code 91 = .ok (.aload_n 0, 1) := F_MD_cut_55.2.2.2.2.2.2.2.2.2.2.2.2.2.2.2.2.2.2.2.2.2.2.2.2.1
theorem d_MD_cut_92 : decode prog_12_method_75_code 92 = .ok (.iload_n 3, 1) := F_MD_cut_55.2.2.2.2.2.2.2.2.2.2.2.2.2.2.2.2.2.2.2.2.2.2.2.2.2.1
theorem d_MD_cut_93 : decode prog_12_method_75_code 93 = .ok (.iconst 1, 1) := F_MD_cut_55.2.2.2.2.2.2.2.2.2.2.2.2.2.2.2.2.2.2.2.2.2.2.2.2.2.2.1
theorem d_MD_cut_94 : decode prog_12_method_75_code 94 = .ok (.invokevirtual 250, 3) := F_MD_cut_55.2.2.2.2.2.2.2.2.2.2.2.2.2.2.2.2.2.2.2.2.2.2.2.2.2.2.2.1
theorem d_MD_cut_97 : decode prog_12_method_75_code 97 = .ok (.aload_n 0, 1) := F_MD_cut_55.2.2.2.2.2.2.2.2.2.2.2.2.2.2.2.2.2.2.2.2.2.2.2.2.2.2.2.2.1
theorem d_MD_cut_98 : decode prog_12_method_75_code 98 = .ok (.iload_n 3, 1) := F_MD_cut_55.2.2.2.2.2.2.2.2.2.2.2.2.2.2.2.2.2.2.2.2.2.2.2.2.2.2.2.2.2.1
theorem d_MD_cut_99 : decode prog_12_method_75_code 99 = .ok (.iconst 2, 1) := F_MD_cut_55.2.2.2.2.2.2.2.2.2.2.2.2.2.2.2.2.2.2.2.2.2.2.2.2.2.2.2.2.2.2.1
theorem d_MD_cut_100 : decode prog_12_method_75_code 100 = .ok (.invokevirtual 250, 3) := F_MD_cut_55.2.2.2.2.2.2.2.2.2.2.2.2.2.2.2.2.2.2.2.2.2.2.2.2.2.2.2.2.2.2.2.1
theorem F_MD_cut_103 : Jvm.Free.DS.Facts prog_12_method_75_code 103 [(.invokevirtual 315, 3), (.imul, 1), (.ifCond .le (7), 3), (.iconst 0, 1), (.goto (4), 3), (.iconst 1, 1), (.ireturn, 1)] := Jvm.Free.DS.facts 103 _ (by decide +kernel) (by decide +kernel)
theorem d_MD_cut_103 : decode prog_12_method_75_code 103 = .ok (.invokevirtual 315, 3) := F_MD_cut_103.1
theorem d_MD_cut_106 : decode prog_12_method_75_code 106 = .ok (.imul, 1) := F_MD_cut_103.2.1
theorem d_MD_cut_107 : decode prog_12_method_75_code 107 = .ok (.ifCond .le (7), 3) := F_MD_cut_103.2.2.1
theorem d_MD_cut_110 : decode prog_12_method_75_code 110 = .ok (.iconst 0, 1) := F_MD_cut_103.2.2.2.1
theorem d_MD_cut_111 : decode prog_12_method_75_code 111 = .ok (.goto (4), 3) := F_MD_cut_103.2.2.2.2.1
theorem d_MD_cut_114 : decode prog_12_method_75_code 114 = .ok (.iconst 1, 1) := F_MD_cut_103.2.2.2.2.2.1
theorem d_MD_cut_115 : decode prog_12_method_75_code 115 = .ok (.ireturn, 1) := F_MD_cut_103.2.2.2.2.2.2.1
theorem F_MD_sideOf_0 : Jvm.Free.DS.Facts prog_12_method_74_code 0 [(.aload_n 0, 1), (.getfield 21, 3), (.bipush (9), 2), (.iload_n 1, 1), (.imul, 1), (.bipush (6), 2), (.iadd, 1), (.laload, 1), (.lload_n 2, 1), (.lmul, 1), (.aload_n 0, 1), (.getfield 21, 3), (.bipush (9), 2), (.iload_n 1, 1), (.imul, 1), (.bipush (7), 2), (.iadd, 1), (.laload, 1), (.lload 4, 2), (.lmul, 1), (.ladd, 1), (.aload_n 0, 1), (.getfield 21, 3), (.bipush (9), 2), (.iload_n 1, 1), (.imul, 1), (.bipush (8), 2), (.iadd, 1), (.laload, 1), (.lload 6, 2), (.lmul, 1), (.ladd, 1)] := Jvm.Free.DS.facts 0 _ (by decide +kernel) (by decide +kernel)
theorem d_MD_sideOf_0 : decode prog_12_method_74_code 0 = .ok (.aload_n 0, 1) := F_MD_sideOf_0.1
theorem d_MD_sideOf_1 : decode prog_12_method_74_code 1 = .ok (.getfield 21, 3) := F_MD_sideOf_0.2.1
theorem d_MD_sideOf_4 : decode prog_12_method_74_code 4 = .ok (.bipush (9), 2) := F_MD_sideOf_0.2.2.1
theorem d_MD_sideOf_6 : decode prog_12_method_74_code 6 = .ok (.iload_n 1, 1) := F_MD_sideOf_0.2.2.2.1
theorem d_MD_sideOf_7 : decode prog_12_method_74_code 7 = .ok (.imul, 1) := F_MD_sideOf_0.2.2.2.2.1
theorem d_MD_sideOf_8 : decode prog_12_method_74_code 8 = .ok (.bipush (6), 2) := F_MD_sideOf_0.2.2.2.2.2.1
theorem d_MD_sideOf_10 : decode prog_12_method_74_code 10 = .ok (.iadd, 1) := F_MD_sideOf_0.2.2.2.2.2.2.1
theorem d_MD_sideOf_11 : decode prog_12_method_74_code 11 = .ok (.laload, 1) := F_MD_sideOf_0.2.2.2.2.2.2.2.1
theorem d_MD_sideOf_12 : decode prog_12_method_74_code 12 = .ok (.lload_n 2, 1) := F_MD_sideOf_0.2.2.2.2.2.2.2.2.1
theorem d_MD_sideOf_13 : decode prog_12_method_74_code 13 = .ok (.lmul, 1) := F_MD_sideOf_0.2.2.2.2.2.2.2.2.2.1
theorem d_MD_sideOf_14 : decode prog_12_method_74_code 14 = .ok (.aload_n 0, 1) := F_MD_sideOf_0.2.2.2.2.2.2.2.2.2.2.1
theorem d_MD_sideOf_15 : decode prog_12_method_74_code 15 = .ok (.getfield 21, 3) := F_MD_sideOf_0.2.2.2.2.2.2.2.2.2.2.2.1
theorem d_MD_sideOf_18 : decode prog_12_method_74_code 18 = .ok (.bipush (9), 2) := F_MD_sideOf_0.2.2.2.2.2.2.2.2.2.2.2.2.1
theorem d_MD_sideOf_20 : decode prog_12_method_74_code 20 = .ok (.iload_n 1, 1) := F_MD_sideOf_0.2.2.2.2.2.2.2.2.2.2.2.2.2.1
theorem d_MD_sideOf_21 : decode prog_12_method_74_code 21 = .ok (.imul, 1) := F_MD_sideOf_0.2.2.2.2.2.2.2.2.2.2.2.2.2.2.1
theorem d_MD_sideOf_22 : decode prog_12_method_74_code 22 = .ok (.bipush (7), 2) := F_MD_sideOf_0.2.2.2.2.2.2.2.2.2.2.2.2.2.2.2.1
theorem d_MD_sideOf_24 : decode prog_12_method_74_code 24 = .ok (.iadd, 1) := F_MD_sideOf_0.2.2.2.2.2.2.2.2.2.2.2.2.2.2.2.2.1
theorem d_MD_sideOf_25 : decode prog_12_method_74_code 25 = .ok (.laload, 1) := F_MD_sideOf_0.2.2.2.2.2.2.2.2.2.2.2.2.2.2.2.2.2.1
theorem d_MD_sideOf_26 : decode prog_12_method_74_code 26 = .ok (.lload 4, 2) := F_MD_sideOf_0.2.2.2.2.2.2.2.2.2.2.2.2.2.2.2.2.2.2.1
theorem d_MD_sideOf_28 : decode prog_12_method_74_code 28 = .ok (.lmul, 1) := F_MD_sideOf_0.2.2.2.2.2.2.2.2.2.2.2.2.2.2.2.2.2.2.2.1
theorem d_MD_sideOf_29 : decode prog_12_method_74_code 29 = .ok (.ladd, 1) := F_MD_sideOf_0.2.2.2.2.2.2.2.2.2.2.2.2.2.2.2.2.2.2.2.2.1
theorem d_MD_sideOf_30 : decode prog_12_method_74_code 30 = .ok (.aload_n 0, 1) := F_MD_sideOf_0.2.2.2.2.2.2.2.2.2.2.2.2.2.2.2.2.2.2.2.2.2.1
theorem d_MD_sideOf_31 : decode prog_12_method_74_code 31 = .ok (.getfield 21, 3) := F_MD_sideOf_0.2.2.2.2.2.2.2.2.2.2.2.2.2.2.2.2.2.2.2.2.2.2.1
theorem d_MD_sideOf_34 : decode prog_12_method_74_code 34 = .ok (.bipush (9), 2) := F_MD_sideOf_0.2.2.2.2.2.2.2.2.2.2.2.2.2.2.2.2.2.2.2.2.2.2.2.1
theorem d_MD_sideOf_36 : decode prog_12_method_74_code 36 = .ok (.iload_n 1, 1) := F_MD_sideOf_0.2.2.2.2.2.2.2.2.2.2.2.2.2.2.2.2.2.2.2.2.2.2.2.2.1
theorem d_MD_sideOf_37 : decode prog_12_method_74_code 37 = .ok (.imul, 1) := F_MD_sideOf_0.2.2.2.2.2.2.2.2.2.2.2.2.2.2.2.2.2.2.2.2.2.2.2.2.2.1
theorem d_MD_sideOf_38 : decode prog_12_method_74_code 38 = .ok (.bipush (8), 2) := F_MD_sideOf_0.2.2.2.2.2.2.2.2.2.2.2.2.2.2.2.2.2.2.2.2.2.2.2.2.2.2.1
theorem d_MD_sideOf_40 : decode prog_12_method_74_code 40 = .ok (.iadd, 1) := F_MD_sideOf_0.2.2.2.2.2.2.2.2.2.2.2.2.2.2.2.2.2.2.2.2.2.2.2.2.2.2.2.1
theorem d_MD_sideOf_41 : decode prog_12_method_74_code 41 = .ok (.laload, 1) := F_MD_sideOf_0.2.2.2.2.2.2.2.2.2.2.2.2.2.2.2.2.2.2.2.2.2.2.2.2.2.2.2.2.1
theorem d_MD_sideOf_42 : decode prog_12_method_74_code 42 = .ok (.lload 6, 2) := F_MD_sideOf_0.2.2.2.2.2.2.2.2.2.2.2.2.2.2.2.2.2.2.2.2.2.2.2.2.2.2.2.2.2.1
theorem d_MD_sideOf_44 : decode prog_12_method_74_code 44 = .ok (.lmul, 1) := F_MD_sideOf_0.2.2.2.2.2.2.2.2.2.2.2.2.2.2.2.2.2.2.2.2.2.2.2.2.2.2.2.2.2.2.1
theorem d_MD_sideOf_45 : decode prog_12_method_74_code 45 = .ok (.ladd, 1) := F_MD_sideOf_0.2.2.2.2.2.2.2.2.2.2.2.2.2.2.2.2.2.2.2.2.2.2.2.2.2.2.2.2.2.2.2.1
theorem F_MD_sideOf_46 : Jvm.Free.DS.Facts prog_12_method_74_code 46 [(.invokestatic 311, 3), (.ireturn, 1)] := Jvm.Free.DS.facts 46 _ (by decide +kernel) (by decide +kernel)
theorem d_MD_sideOf_46 : decode prog_12_method_74_code 46 = .ok (.invokestatic 311, 3) := F_MD_sideOf_46.1
theorem d_MD_sideOf_49 : decode prog_12_method_74_code 49 = .ok (.ireturn, 1) := F_MD_sideOf_46.2.1
theorem F_MD_cutSides_0 : Jvm.Free.DS.Facts prog_12_method_77_code 0 [(.aload_n 0, 1), (.iconst 0, 1), (.putfield 74, 3), (.aload_n 0, 1), (.iload_n 1, 1), (.invokevirtual 241, 3), (.ifCond .eq (11), 3), (.aload_n 0, 1), (.iload_n 2, 1), (.invokevirtual 238, 3), (.ifCond .ne (5), 3), (.iconst (-1), 1), (.ireturn, 1), (.iconst 0, 1), (.istore_n 3, 1), (.iconst 0, 1), (.istore 4, 2), (.iload 4, 2), (.iconst 4, 1), (.if_icmp .ge (44), 3), (.iload_n 3, 1), (.aload_n 0, 1), (.iload_n 1, 1), (.iload_n 2, 1), (.iload 4, 2), (.invokevirtual 319, 3), (.aload_n 0, 1), (.iload_n 1, 1), (.iload_n 2, 1), (.iload 4, 2), (.iconst 1, 1), (.iadd, 1)] := Jvm.Free.DS.facts 0 _ (by decide +kernel) (by decide +kernel)
theorem d_MD_cutSides_0 : decode prog_12_method_77_code 0 = .ok (.aload_n 0, 1) := F_MD_cutSides_0.1
theorem d_MD_cutSides_1 : decode prog_12_method_77_code 1 = .ok (.iconst 0, 1) := F_MD_cutSides_0.2.1
theorem d_MD_cutSides_2 : decode prog_12_method_77_code 2 = .ok (.putfield 74, 3) := F_MD_cutSides_0.2.2.1
theorem d_MD_cutSides_5 : decode prog_12_method_77_code 5 = .ok (.aload_n 0, 1) := F_MD_cutSides_0.2.2.2.1
theorem d_MD_cutSides_6 : decode prog_12_method_77_code 6 = .ok (.iload_n 1, 1) := F_MD_cutSides_0.2.2.2.2.1
theorem d_MD_cutSides_7 : decode prog_12_method_77_code 7 = .ok (.invokevirtual 241, 3) := F_MD_cutSides_0.2.2.2.2.2.1
theorem d_MD_cutSides_10 : decode prog_12_method_77_code 10 = .ok (.ifCond .eq (11), 3) := F_MD_cutSides_0.2.2.2.2.2.2.1
theorem d_MD_cutSides_13 : decode prog_12_method_77_code 13 = .ok (.aload_n 0, 1) := F_MD_cutSides_0.2.2.2.2.2.2.2.1
theorem d_MD_cutSides_14 : decode prog_12_method_77_code 14 = .ok (.iload_n 2, 1) := F_MD_cutSides_0.2.2.2.2.2.2.2.2.1
theorem d_MD_cutSides_15 : decode prog_12_method_77_code 15 = .ok (.invokevirtual 238, 3) := F_MD_cutSides_0.2.2.2.2.2.2.2.2.2.1
theorem d_MD_cutSides_18 : decode prog_12_method_77_code 18 = .ok (.ifCond .ne (5), 3) := F_MD_cutSides_0.2.2.2.2.2.2.2.2.2.2.1
theorem d_MD_cutSides_21 : decode prog_12_method_77_code 21 = .ok (.iconst (-1), 1) := F_MD_cutSides_0.2.2.2.2.2.2.2.2.2.2.2.1
theorem d_MD_cutSides_22 : decode prog_12_method_77_code 22 = .ok (.ireturn, 1) := F_MD_cutSides_0.2.2.2.2.2.2.2.2.2.2.2.2.1
theorem d_MD_cutSides_23 : decode prog_12_method_77_code 23 = .ok (.iconst 0, 1) := F_MD_cutSides_0.2.2.2.2.2.2.2.2.2.2.2.2.2.1
theorem d_MD_cutSides_24 : decode prog_12_method_77_code 24 = .ok (.istore_n 3, 1) := F_MD_cutSides_0.2.2.2.2.2.2.2.2.2.2.2.2.2.2.1
theorem d_MD_cutSides_25 : decode prog_12_method_77_code 25 = .ok (.iconst 0, 1) := F_MD_cutSides_0.2.2.2.2.2.2.2.2.2.2.2.2.2.2.2.1
theorem d_MD_cutSides_26 : decode prog_12_method_77_code 26 = .ok (.istore 4, 2) := F_MD_cutSides_0.2.2.2.2.2.2.2.2.2.2.2.2.2.2.2.2.1
theorem d_MD_cutSides_28 : decode prog_12_method_77_code 28 = .ok (.iload 4, 2) := F_MD_cutSides_0.2.2.2.2.2.2.2.2.2.2.2.2.2.2.2.2.2.1
theorem d_MD_cutSides_30 : decode prog_12_method_77_code 30 = .ok (.iconst 4, 1) := F_MD_cutSides_0.2.2.2.2.2.2.2.2.2.2.2.2.2.2.2.2.2.2.1
theorem d_MD_cutSides_31 : decode prog_12_method_77_code 31 = .ok (.if_icmp .ge (44), 3) := F_MD_cutSides_0.2.2.2.2.2.2.2.2.2.2.2.2.2.2.2.2.2.2.2.1
theorem d_MD_cutSides_34 : decode prog_12_method_77_code 34 = .ok (.iload_n 3, 1) := F_MD_cutSides_0.2.2.2.2.2.2.2.2.2.2.2.2.2.2.2.2.2.2.2.2.1
theorem d_MD_cutSides_35 : decode prog_12_method_77_code 35 = .ok (.aload_n 0, 1) := F_MD_cutSides_0.2.2.2.2.2.2.2.2.2.2.2.2.2.2.2.2.2.2.2.2.2.1
theorem d_MD_cutSides_36 : decode prog_12_method_77_code 36 = .ok (.iload_n 1, 1) := F_MD_cutSides_0.2.2.2.2.2.2.2.2.2.2.2.2.2.2.2.2.2.2.2.2.2.2.1
theorem d_MD_cutSides_37 : decode prog_12_method_77_code 37 = .ok (.iload_n 2, 1) := F_MD_cutSides_0.2.2.2.2.2.2.2.2.2.2.2.2.2.2.2.2.2.2.2.2.2.2.2.1
theorem d_MD_cutSides_38 : decode prog_12_method_77_code 38 = .ok (.iload 4, 2) := F_MD_cutSides_0.2.2.2.2.2.2.2.2.2.2.2.2.2.2.2.2.2.2.2.2.2.2.2.2.1
theorem d_MD_cutSides_40 : decode prog_12_method_77_code 40 = .ok (.invokevirtual 319, 3) := F_MD_cutSides_0.2.2.2.2.2.2.2.2.2.2.2.2.2.2.2.2.2.2.2.2.2.2.2.2.2.1
theorem d_MD_cutSides_43 : decode prog_12_method_77_code 43 = .ok (.aload_n 0, 1) := F_MD_cutSides_0.2.2.2.2.2.2.2.2.2.2.2.2.2.2.2.2.2.2.2.2.2.2.2.2.2.2.1
theorem d_MD_cutSides_44 : decode prog_12_method_77_code 44 = .ok (.iload_n 1, 1) := F_MD_cutSides_0.2.2.2.2.2.2.2.2.2.2.2.2.2.2.2.2.2.2.2.2.2.2.2.2.2.2.2.1
theorem d_MD_cutSides_45 : decode prog_12_method_77_code 45 = .ok (.iload_n 2, 1) := F_MD_cutSides_0.2.2.2.2.2.2.2.2.2.2.2.2.2.2.2.2.2.2.2.2.2.2.2.2.2.2.2.2.1
theorem d_MD_cutSides_46 : decode prog_12_method_77_code 46 = .ok (.iload 4, 2) := F_MD_cutSides_0.2.2.2.2.2.2.2.2.2.2.2.2.2.2.2.2.2.2.2.2.2.2.2.2.2.2.2.2.2.1
theorem d_MD_cutSides_48 : decode prog_12_method_77_code 48 = .ok (.iconst 1, 1) := F_MD_cutSides_0.2.2.2.2.2.2.2.2.2.2.2.2.2.2.2.2.2.2.2.2.2.2.2.2.2.2.2.2.2.2.1
theorem d_MD_cutSides_49 : decode prog_12_method_77_code 49 = .ok (.iadd, 1) := F_MD_cutSides_0.2.2.2.2.2.2.2.2.2.2.2.2.2.2.2.2.2.2.2.2.2.2.2.2.2.2.2.2.2.2.2.1
theorem F_MD_cutSides_50 : Jvm.Free.DS.Facts prog_12_method_77_code 50 [(.iconst 4, 1), (.irem, 1), (.invokevirtual 319, 3), (.imul, 1), (.ifCond .le (7), 3), (.iconst 0, 1), (.goto (7), 3), (.iconst 1, 1), (.iload 4, 2), (.ishl, 1), (.ior, 1), (.istore_n 3, 1), (.iinc 4 (1), 3), (.goto (-44), 3), (.iload_n 3, 1), (.ireturn, 1)] := Jvm.Free.DS.facts 50 _ (by decide +kernel) (by decide +kernel)
theorem d_MD_cutSides_50 : decode prog_12_method_77_code 50 = .ok (.iconst 4, 1) := F_MD_cutSides_50.1
theorem d_MD_cutSides_51 : decode prog_12_method_77_code 51 = .ok (.irem, 1) := F_MD_cutSides_50.2.1
theorem d_MD_cutSides_52 : decode prog_12_method_77_code 52 = .ok (.invokevirtual 319, 3) := F_MD_cutSides_50.2.2.1
theorem d_MD_cutSides_55 : decode prog_12_method_77_code 55 = .ok (.imul, 1) := F_MD_cutSides_50.2.2.2.1
theorem d_MD_cutSides_56 : decode prog_12_method_77_code 56 = .ok (.ifCond .le (7), 3) := F_MD_cutSides_50.2.2.2.2.1
theorem d_MD_cutSides_59 : decode prog_12_method_77_code 59 = .ok (.iconst 0, 1) := F_MD_cutSides_50.2.2.2.2.2.1
theorem d_MD_cutSides_60 : decode prog_12_method_77_code 60 = .ok (.goto (7), 3) := F_MD_cutSides_50.2.2.2.2.2.2.1
theorem d_MD_cutSides_63 : decode prog_12_method_77_code 63 = .ok (.iconst 1, 1) := F_MD_cutSides_50.2.2.2.2.2.2.2.1
theorem d_MD_cutSides_64 : decode prog_12_method_77_code 64 = .ok (.iload 4, 2) := F_MD_cutSides_50.2.2.2.2.2.2.2.2.1
theorem d_MD_cutSides_66 : decode prog_12_method_77_code 66 = .ok (.ishl, 1) := F_MD_cutSides_50.2.2.2.2.2.2.2.2.2.1
theorem d_MD_cutSides_67 : decode prog_12_method_77_code 67 = .ok (.ior, 1) := F_MD_cutSides_50.2.2.2.2.2.2.2.2.2.2.1
theorem d_MD_cutSides_68 : decode prog_12_method_77_code 68 = .ok (.istore_n 3, 1) := F_MD_cutSides_50.2.2.2.2.2.2.2.2.2.2.2.1
theorem d_MD_cutSides_69 : decode prog_12_method_77_code 69 = .ok (.iinc 4 (1), 3) := F_MD_cutSides_50.2.2.2.2.2.2.2.2.2.2.2.2.1
theorem d_MD_cutSides_72 : decode prog_12_method_77_code 72 = .ok (.goto (-44), 3) := F_MD_cutSides_50.2.2.2.2.2.2.2.2.2.2.2.2.2.1
theorem d_MD_cutSides_75 : decode prog_12_method_77_code 75 = .ok (.iload_n 3, 1) := F_MD_cutSides_50.2.2.2.2.2.2.2.2.2.2.2.2.2.2.1
theorem d_MD_cutSides_76 : decode prog_12_method_77_code 76 = .ok (.ireturn, 1) := F_MD_cutSides_50.2.2.2.2.2.2.2.2.2.2.2.2.2.2.2.1
theorem F_MD_sideOfCorner_0 : Jvm.Free.DS.Facts prog_12_method_76_code 0 [(.aload_n 0, 1), (.iload_n 1, 1), (.aload_n 0, 1), (.getfield 15, 3), (.bipush (8), 2), (.iload_n 2, 1), (.imul, 1), (.iconst 2, 1), (.iload_n 3, 1), (.imul, 1), (.iadd, 1), (.iaload, 1), (.i2l, 1), (.aload_n 0, 1), (.getfield 15, 3), (.bipush (8), 2), (.iload_n 2, 1), (.imul, 1), (.iconst 2, 1), (.iload_n 3, 1), (.imul, 1), (.iadd, 1), (.iconst 1, 1), (.iadd, 1), (.iaload, 1), (.i2l, 1), (.lconst 1, 1), (.invokevirtual 315, 3), (.ireturn, 1)] := Jvm.Free.DS.facts 0 _ (by decide +kernel) (by decide +kernel)
theorem d_MD_sideOfCorner_0 : decode prog_12_method_76_code 0 = .ok (.aload_n 0, 1) := F_MD_sideOfCorner_0.1
theorem d_MD_sideOfCorner_1 : decode prog_12_method_76_code 1 = .ok (.iload_n 1, 1) := F_MD_sideOfCorner_0.2.1
theorem d_MD_sideOfCorner_2 : decode prog_12_method_76_code 2 = .ok (.aload_n 0, 1) := F_MD_sideOfCorner_0.2.2.1
theorem d_MD_sideOfCorner_3 : decode prog_12_method_76_code 3 = .ok (.getfield 15, 3) := F_MD_sideOfCorner_0.2.2.2.1
theorem d_MD_sideOfCorner_6 : decode prog_12_method_76_code 6 = .ok (.bipush (8), 2) := F_MD_sideOfCorner_0.2.2.2.2.1
theorem d_MD_sideOfCorner_8 : decode prog_12_method_76_code 8 = .ok (.iload_n 2, 1) := F_MD_sideOfCorner_0.2.2.2.2.2.1
theorem d_MD_sideOfCorner_9 : decode prog_12_method_76_code 9 = .ok (.imul, 1) := F_MD_sideOfCorner_0.2.2.2.2.2.2.1
theorem d_MD_sideOfCorner_10 : decode prog_12_method_76_code 10 = .ok (.iconst 2, 1) := F_MD_sideOfCorner_0.2.2.2.2.2.2.2.1
theorem d_MD_sideOfCorner_11 : decode prog_12_method_76_code 11 = .ok (.iload_n 3, 1) := F_MD_sideOfCorner_0.2.2.2.2.2.2.2.2.1
theorem d_MD_sideOfCorner_12 : decode prog_12_method_76_code 12 = .ok (.imul, 1) := F_MD_sideOfCorner_0.2.2.2.2.2.2.2.2.2.1
theorem d_MD_sideOfCorner_13 : decode prog_12_method_76_code 13 = .ok (.iadd, 1) := F_MD_sideOfCorner_0.2.2.2.2.2.2.2.2.2.2.1
theorem d_MD_sideOfCorner_14 : decode prog_12_method_76_code 14 = .ok (.iaload, 1) := F_MD_sideOfCorner_0.2.2.2.2.2.2.2.2.2.2.2.1
theorem d_MD_sideOfCorner_15 : decode prog_12_method_76_code 15 = .ok (.i2l, 1) := F_MD_sideOfCorner_0.2.2.2.2.2.2.2.2.2.2.2.2.1
theorem d_MD_sideOfCorner_16 : decode prog_12_method_76_code 16 = .ok (.aload_n 0, 1) := F_MD_sideOfCorner_0.2.2.2.2.2.2.2.2.2.2.2.2.2.1
theorem d_MD_sideOfCorner_17 : decode prog_12_method_76_code 17 = .ok (.getfield 15, 3) := F_MD_sideOfCorner_0.2.2.2.2.2.2.2.2.2.2.2.2.2.2.1
theorem d_MD_sideOfCorner_20 : decode prog_12_method_76_code 20 = .ok (.bipush (8), 2) := F_MD_sideOfCorner_0.2.2.2.2.2.2.2.2.2.2.2.2.2.2.2.1
theorem d_MD_sideOfCorner_22 : decode prog_12_method_76_code 22 = .ok (.iload_n 2, 1) := F_MD_sideOfCorner_0.2.2.2.2.2.2.2.2.2.2.2.2.2.2.2.2.1
theorem d_MD_sideOfCorner_23 : decode prog_12_method_76_code 23 = .ok (.imul, 1) := F_MD_sideOfCorner_0.2.2.2.2.2.2.2.2.2.2.2.2.2.2.2.2.2.1
theorem d_MD_sideOfCorner_24 : decode prog_12_method_76_code 24 = .ok (.iconst 2, 1) := F_MD_sideOfCorner_0.2.2.2.2.2.2.2.2.2.2.2.2.2.2.2.2.2.2.1
theorem d_MD_sideOfCorner_25 : decode prog_12_method_76_code 25 = .ok (.iload_n 3, 1) := F_MD_sideOfCorner_0.2.2.2.2.2.2.2.2.2.2.2.2.2.2.2.2.2.2.2.1
theorem d_MD_sideOfCorner_26 : decode prog_12_method_76_code 26 = .ok (.imul, 1) := F_MD_sideOfCorner_0.2.2.2.2.2.2.2.2.2.2.2.2.2.2.2.2.2.2.2.2.1
theorem d_MD_sideOfCorner_27 : decode prog_12_method_76_code 27 = .ok (.iadd, 1) := F_MD_sideOfCorner_0.2.2.2.2.2.2.2.2.2.2.2.2.2.2.2.2.2.2.2.2.2.1
theorem d_MD_sideOfCorner_28 : decode prog_12_method_76_code 28 = .ok (.iconst 1, 1) := F_MD_sideOfCorner_0.2.2.2.2.2.2.2.2.2.2.2.2.2.2.2.2.2.2.2.2.2.2.1
theorem d_MD_sideOfCorner_29 : decode prog_12_method_76_code 29 = .ok (.iadd, 1) := F_MD_sideOfCorner_0.2.2.2.2.2.2.2.2.2.2.2.2.2.2.2.2.2.2.2.2.2.2.2.1
theorem d_MD_sideOfCorner_30 : decode prog_12_method_76_code 30 = .ok (.iaload, 1) := F_MD_sideOfCorner_0.2.2.2.2.2.2.2.2.2.2.2.2.2.2.2.2.2.2.2.2.2.2.2.2.1
theorem d_MD_sideOfCorner_31 : decode prog_12_method_76_code 31 = .ok (.i2l, 1) := F_MD_sideOfCorner_0.2.2.2.2.2.2.2.2.2.2.2.2.2.2.2.2.2.2.2.2.2.2.2.2.2.1
theorem d_MD_sideOfCorner_32 : decode prog_12_method_76_code 32 = .ok (.lconst 1, 1) := F_MD_sideOfCorner_0.2.2.2.2.2.2.2.2.2.2.2.2.2.2.2.2.2.2.2.2.2.2.2.2.2.2.1
theorem d_MD_sideOfCorner_33 : decode prog_12_method_76_code 33 = .ok (.invokevirtual 315, 3) := F_MD_sideOfCorner_0.2.2.2.2.2.2.2.2.2.2.2.2.2.2.2.2.2.2.2.2.2.2.2.2.2.2.2.1
theorem d_MD_sideOfCorner_36 : decode prog_12_method_76_code 36 = .ok (.ireturn, 1) := F_MD_sideOfCorner_0.2.2.2.2.2.2.2.2.2.2.2.2.2.2.2.2.2.2.2.2.2.2.2.2.2.2.2.2.1
theorem F_MD_kept_0 : Jvm.Free.DS.Facts prog_12_method_78_code 0 [(.aload_n 0, 1), (.iconst 0, 1), (.putfield 74, 3), (.aload_n 0, 1), (.iload_n 1, 1), (.invokevirtual 241, 3), (.ifCond .ne (5), 3), (.iconst (-1), 1), (.ireturn, 1), (.iconst 0, 1), (.istore_n 2, 1), (.iconst 0, 1), (.istore_n 3, 1), (.iload_n 3, 1), (.aload_n 0, 1), (.getfield 204, 3), (.if_icmp .ge (65), 3), (.iconst 1, 1), (.istore 4, 2), (.iconst 0, 1), (.istore 5, 2), (.iload 5, 2), (.iconst 4, 1), (.if_icmp .ge (32), 3), (.iload 4, 2), (.ifCond .eq (18), 3), (.aload_n 0, 1), (.iload_n 1, 1), (.iload_n 3, 1), (.iload 5, 2), (.invokevirtual 319, 3), (.ifCond .eq (7), 3)] := Jvm.Free.DS.facts 0 _ (by decide +kernel) (by decide +kernel)
theorem d_MD_kept_0 : decode prog_12_method_78_code 0 = .ok (.aload_n 0, 1) := F_MD_kept_0.1
theorem d_MD_kept_1 : decode prog_12_method_78_code 1 = .ok (.iconst 0, 1) := F_MD_kept_0.2.1
theorem d_MD_kept_2 : decode prog_12_method_78_code 2 = .ok (.putfield 74, 3) := F_MD_kept_0.2.2.1
theorem d_MD_kept_5 : decode prog_12_method_78_code 5 = .ok (.aload_n 0, 1) := F_MD_kept_0.2.2.2.1
theorem d_MD_kept_6 : decode prog_12_method_78_code 6 = .ok (.iload_n 1, 1) := F_MD_kept_0.2.2.2.2.1
theorem d_MD_kept_7 : decode prog_12_method_78_code 7 = .ok (.invokevirtual 241, 3) := F_MD_kept_0.2.2.2.2.2.1
theorem d_MD_kept_10 : decode prog_12_method_78_code 10 = .ok (.ifCond .ne (5), 3) := F_MD_kept_0.2.2.2.2.2.2.1
theorem d_MD_kept_13 : decode prog_12_method_78_code 13 = .ok (.iconst (-1), 1) := F_MD_kept_0.2.2.2.2.2.2.2.1
theorem d_MD_kept_14 : decode prog_12_method_78_code 14 = .ok (.ireturn, 1) := F_MD_kept_0.2.2.2.2.2.2.2.2.1
theorem d_MD_kept_15 : decode prog_12_method_78_code 15 = .ok (.iconst 0, 1) := F_MD_kept_0.2.2.2.2.2.2.2.2.2.1
theorem d_MD_kept_16 : decode prog_12_method_78_code 16 = .ok (.istore_n 2, 1) := F_MD_kept_0.2.2.2.2.2.2.2.2.2.2.1
theorem d_MD_kept_17 : decode prog_12_method_78_code 17 = .ok (.iconst 0, 1) := F_MD_kept_0.2.2.2.2.2.2.2.2.2.2.2.1
theorem d_MD_kept_18 : decode prog_12_method_78_code 18 = .ok (.istore_n 3, 1) := F_MD_kept_0.2.2.2.2.2.2.2.2.2.2.2.2.1
theorem d_MD_kept_19 : decode prog_12_method_78_code 19 = .ok (.iload_n 3, 1) := F_MD_kept_0.2.2.2.2.2.2.2.2.2.2.2.2.2.1
theorem d_MD_kept_20 : decode prog_12_method_78_code 20 = .ok (.aload_n 0, 1) := F_MD_kept_0.2.2.2.2.2.2.2.2.2.2.2.2.2.2.1
theorem d_MD_kept_21 : decode prog_12_method_78_code 21 = .ok (.getfield 204, 3) := F_MD_kept_0.2.2.2.2.2.2.2.2.2.2.2.2.2.2.2.1
theorem d_MD_kept_24 : decode prog_12_method_78_code 24 = .ok (.if_icmp .ge (65), 3) := F_MD_kept_0.2.2.2.2.2.2.2.2.2.2.2.2.2.2.2.2.1
theorem d_MD_kept_27 : decode prog_12_method_78_code 27 = .ok (.iconst 1, 1) := F_MD_kept_0.2.2.2.2.2.2.2.2.2.2.2.2.2.2.2.2.2.1
theorem d_MD_kept_28 : decode prog_12_method_78_code 28 = .ok (.istore 4, 2) := F_MD_kept_0.2.2.2.2.2.2.2.2.2.2.2.2.2.2.2.2.2.2.1
theorem d_MD_kept_30 : decode prog_12_method_78_code 30 = .ok (.iconst 0, 1) := F_MD_kept_0.2.2.2.2.2.2.2.2.2.2.2.2.2.2.2.2.2.2.2.1
theorem d_MD_kept_31 : decode prog_12_method_78_code 31 = .ok (.istore 5, 2) := F_MD_kept_0.2.2.2.2.2.2.2.2.2.2.2.2.2.2.2.2.2.2.2.2.1
theorem d_MD_kept_33 : decode prog_12_method_78_code 33 = .ok (.iload 5, 2) := F_MD_kept_0.2.2.2.2.2.2.2.2.2.2.2.2.2.2.2.2.2.2.2.2.2.1
theorem d_MD_kept_35 : decode prog_12_method_78_code 35 = .ok (.iconst 4, 1) := F_MD_kept_0.2.2.2.2.2.2.2.2.2.2.2.2.2.2.2.2.2.2.2.2.2.2.1
theorem d_MD_kept_36 : decode prog_12_method_78_code 36 = .ok (.if_icmp .ge (32), 3) := F_MD_kept_0.2.2.2.2.2.2.2.2.2.2.2.2.2.2.2.2.2.2.2.2.2.2.2.1
theorem d_MD_kept_39 : decode prog_12_method_78_code 39 = .ok (.iload 4, 2) := F_MD_kept_0.2.2.2.2.2.2.2.2.2.2.2.2.2.2.2.2.2.2.2.2.2.2.2.2.1
theorem d_MD_kept_41 : decode prog_12_method_78_code 41 = .ok (.ifCond .eq (18), 3) := F_MD_kept_0.2.2.2.2.2.2.2.2.2.2.2.2.2.2.2.2.2.2.2.2.2.2.2.2.2.1
theorem d_MD_kept_44 : decode prog_12_method_78_code 44 = .ok (.aload_n 0, 1) := F_MD_kept_0.2.2.2.2.2.2.2.2.2.2.2.2.2.2.2.2.2.2.2.2.2.2.2.2.2.2.1
theorem d_MD_kept_45 : decode prog_12_method_78_code 45 = .ok (.iload_n 1, 1) := F_MD_kept_0.2.2.2.2.2.2.2.2.2.2.2.2.2.2.2.2.2.2.2.2.2.2.2.2.2.2.2.1
theorem d_MD_kept_46 : decode prog_12_method_78_code 46 = .ok (.iload_n 3, 1) := F_MD_kept_0.2.2.2.2.2.2.2.2.2.2.2.2.2.2.2.2.2.2.2.2.2.2.2.2.2.2.2.2.1
theorem d_MD_kept_47 : decode prog_12_method_78_code 47 = .ok (.iload 5, 2) := F_MD_kept_0.2.2.2.2.2.2.2.2.2.2.2.2.2.2.2.2.2.2.2.2.2.2.2.2.2.2.2.2.2.1
theorem d_MD_kept_49 : decode prog_12_method_78_code 49 = .ok (.invokevirtual 319, 3) := F_MD_kept_0.2.2.2.2.2.2.2.2.2.2.2.2.2.2.2.2.2.2.2.2.2.2.2.2.2.2.2.2.2.2.1
theorem d_MD_kept_52 : decode prog_12_method_78_code 52 = .ok (.ifCond .eq (7), 3) := F_MD_kept_0.2.2.2.2.2.2.2.2.2.2.2.2.2.2.2.2.2.2.2.2.2.2.2.2.2.2.2.2.2.2.2.1
theorem F_MD_kept_55 : Jvm.Free.DS.Facts prog_12_method_78_code 55 [(.iconst 1, 1), (.goto (4), 3), (.iconst 0, 1), (.istore 4, 2), (.iinc 5 (1), 3), (.goto (-32), 3), (.iload_n 2, 1), (.iload 4, 2), (.ifCond .eq (9), 3), (.iconst 1, 1), (.iload_n 3, 1), (.ishl, 1), (.goto (4), 3), (.iconst 0, 1), (.ior, 1), (.istore_n 2, 1), (.iinc 3 (1), 3), (.goto (-67), 3), (.iload_n 2, 1), (.ireturn, 1)] := Jvm.Free.DS.facts 55 _ (by decide +kernel) (by decide +kernel)
theorem d_MD_kept_55 : decode prog_12_method_78_code 55 = .ok (.iconst 1, 1) := F_MD_kept_55.1
theorem d_MD_kept_56 : decode prog_12_method_78_code 56 = .ok (.goto (4), 3) := F_MD_kept_55.2.1
theorem d_MD_kept_59 : decode prog_12_method_78_code 59 = .ok (.iconst 0, 1) := F_MD_kept_55.2.2.1
theorem d_MD_kept_60 : decode prog_12_method_78_code 60 = .ok (.istore 4, 2) := F_MD_kept_55.2.2.2.1
theorem d_MD_kept_62 : decode prog_12_method_78_code 62 = .ok (.iinc 5 (1), 3) := F_MD_kept_55.2.2.2.2.1
theorem d_MD_kept_65 : decode prog_12_method_78_code 65 = .ok (.goto (-32), 3) := F_MD_kept_55.2.2.2.2.2.1
theorem d_MD_kept_68 : decode prog_12_method_78_code 68 = .ok (.iload_n 2, 1) := F_MD_kept_55.2.2.2.2.2.2.1
theorem d_MD_kept_69 : decode prog_12_method_78_code 69 = .ok (.iload 4, 2) := F_MD_kept_55.2.2.2.2.2.2.2.1
theorem d_MD_kept_71 : decode prog_12_method_78_code 71 = .ok (.ifCond .eq (9), 3) := F_MD_kept_55.2.2.2.2.2.2.2.2.1
theorem d_MD_kept_74 : decode prog_12_method_78_code 74 = .ok (.iconst 1, 1) := F_MD_kept_55.2.2.2.2.2.2.2.2.2.1
theorem d_MD_kept_75 : decode prog_12_method_78_code 75 = .ok (.iload_n 3, 1) := F_MD_kept_55.2.2.2.2.2.2.2.2.2.2.1
theorem d_MD_kept_76 : decode prog_12_method_78_code 76 = .ok (.ishl, 1) := F_MD_kept_55.2.2.2.2.2.2.2.2.2.2.2.1
theorem d_MD_kept_77 : decode prog_12_method_78_code 77 = .ok (.goto (4), 3) := F_MD_kept_55.2.2.2.2.2.2.2.2.2.2.2.2.1
theorem d_MD_kept_80 : decode prog_12_method_78_code 80 = .ok (.iconst 0, 1) := F_MD_kept_55.2.2.2.2.2.2.2.2.2.2.2.2.2.1
theorem d_MD_kept_81 : decode prog_12_method_78_code 81 = .ok (.ior, 1) := F_MD_kept_55.2.2.2.2.2.2.2.2.2.2.2.2.2.2.1
theorem d_MD_kept_82 : decode prog_12_method_78_code 82 = .ok (.istore_n 2, 1) := F_MD_kept_55.2.2.2.2.2.2.2.2.2.2.2.2.2.2.2.1
theorem d_MD_kept_83 : decode prog_12_method_78_code 83 = .ok (.iinc 3 (1), 3) := F_MD_kept_55.2.2.2.2.2.2.2.2.2.2.2.2.2.2.2.2.1
theorem d_MD_kept_86 : decode prog_12_method_78_code 86 = .ok (.goto (-67), 3) := F_MD_kept_55.2.2.2.2.2.2.2.2.2.2.2.2.2.2.2.2.2.1
theorem d_MD_kept_89 : decode prog_12_method_78_code 89 = .ok (.iload_n 2, 1) := F_MD_kept_55.2.2.2.2.2.2.2.2.2.2.2.2.2.2.2.2.2.2.1
theorem d_MD_kept_90 : decode prog_12_method_78_code 90 = .ok (.ireturn, 1) := F_MD_kept_55.2.2.2.2.2.2.2.2.2.2.2.2.2.2.2.2.2.2.2.1
theorem F_MD_kind_0 : Jvm.Free.DS.Facts prog_12_method_79_code 0 [(.aload_n 0, 1), (.iconst 0, 1), (.putfield 74, 3), (.aload_n 0, 1), (.iload_n 1, 1), (.invokevirtual 241, 3), (.ifCond .ne (5), 3), (.iconst (-1), 1), (.ireturn, 1), (.aload_n 0, 1), (.aload_n 0, 1), (.getfield 41, 3), (.iload_n 1, 1), (.invokevirtual 274, 3), (.aload_n 0, 1), (.invokevirtual 323, 3), (.ireturn, 1)] := Jvm.Free.DS.facts 0 _ (by decide +kernel) (by decide +kernel)
theorem d_MD_kind_0 : decode prog_12_method_79_code 0 = .ok (.aload_n 0, 1) := F_MD_kind_0.1
theorem d_MD_kind_1 : decode prog_12_method_79_code 1 = .ok (.iconst 0, 1) := F_MD_kind_0.2.1
theorem d_MD_kind_2 : decode prog_12_method_79_code 2 = .ok (.putfield 74, 3) := F_MD_kind_0.2.2.1
theorem d_MD_kind_5 : decode prog_12_method_79_code 5 = .ok (.aload_n 0, 1) := F_MD_kind_0.2.2.2.1
theorem d_MD_kind_6 : decode prog_12_method_79_code 6 = .ok (.iload_n 1, 1) := F_MD_kind_0.2.2.2.2.1
theorem d_MD_kind_7 : decode prog_12_method_79_code 7 = .ok (.invokevirtual 241, 3) := F_MD_kind_0.2.2.2.2.2.1
theorem d_MD_kind_10 : decode prog_12_method_79_code 10 = .ok (.ifCond .ne (5), 3) := F_MD_kind_0.2.2.2.2.2.2.1
theorem d_MD_kind_13 : decode prog_12_method_79_code 13 = .ok (.iconst (-1), 1) := F_MD_kind_0.2.2.2.2.2.2.2.1
theorem d_MD_kind_14 : decode prog_12_method_79_code 14 = .ok (.ireturn, 1) := F_MD_kind_0.2.2.2.2.2.2.2.2.1
theorem d_MD_kind_15 : decode prog_12_method_79_code 15 = .ok (.aload_n 0, 1) := F_MD_kind_0.2.2.2.2.2.2.2.2.2.1
theorem d_MD_kind_16 : decode prog_12_method_79_code 16 = .ok (.aload_n 0, 1) := F_MD_kind_0.2.2.2.2.2.2.2.2.2.2.1
theorem d_MD_kind_17 : decode prog_12_method_79_code 17 = .ok (.getfield 41, 3) := F_MD_kind_0.2.2.2.2.2.2.2.2.2.2.2.1
theorem d_MD_kind_20 : decode prog_12_method_79_code 20 = .ok (.iload_n 1, 1) := F_MD_kind_0.2.2.2.2.2.2.2.2.2.2.2.2.1
theorem d_MD_kind_21 : decode prog_12_method_79_code 21 = .ok (.invokevirtual 274, 3) := F_MD_kind_0.2.2.2.2.2.2.2.2.2.2.2.2.2.1
theorem d_MD_kind_24 : decode prog_12_method_79_code 24 = .ok (.aload_n 0, 1) := F_MD_kind_0.2.2.2.2.2.2.2.2.2.2.2.2.2.2.1
theorem d_MD_kind_25 : decode prog_12_method_79_code 25 = .ok (.invokevirtual 323, 3) := F_MD_kind_0.2.2.2.2.2.2.2.2.2.2.2.2.2.2.2.1
theorem d_MD_kind_28 : decode prog_12_method_79_code 28 = .ok (.ireturn, 1) := F_MD_kind_0.2.2.2.2.2.2.2.2.2.2.2.2.2.2.2.2.1
theorem F_MD_kindOfNine_0 : Jvm.Free.DS.Facts prog_12_method_80_code 0 [(.aload_n 0, 1), (.invokevirtual 326, 3), (.ifCond .eq (5), 3), (.iconst 0, 1), (.ireturn, 1), (.aload_n 0, 1), (.getfield 41, 3), (.bipush (6), 2), (.laload, 1), (.lconst 0, 1), (.lcmp, 1), (.ifCond .ne (15), 3), (.aload_n 0, 1), (.getfield 41, 3), (.bipush (7), 2), (.laload, 1), (.lconst 0, 1), (.lcmp, 1), (.ifCond .eq (5), 3), (.iconst 5, 1), (.ireturn, 1), (.aload_n 0, 1), (.getfield 41, 3), (.bipush (8), 2), (.laload, 1), (.lstore_n 1, 1), (.aload_n 0, 1), (.getfield 41, 3), (.iconst 1, 1), (.laload, 1), (.lconst 0, 1), (.lcmp, 1)] := Jvm.Free.DS.facts 0 _ (by decide +kernel) (by decide +kernel)
theorem d_MD_kindOfNine_0 : decode prog_12_method_80_code 0 = .ok (.aload_n 0, 1) := F_MD_kindOfNine_0.1
theorem d_MD_kindOfNine_1 : decode prog_12_method_80_code 1 = .ok (.invokevirtual 326, 3) := F_MD_kindOfNine_0.2.1
theorem d_MD_kindOfNine_4 : decode prog_12_method_80_code 4 = .ok (.ifCond .eq (5), 3) := F_MD_kindOfNine_0.2.2.1
theorem d_MD_kindOfNine_7 : decode prog_12_method_80_code 7 = .ok (.iconst 0, 1) := F_MD_kindOfNine_0.2.2.2.1
theorem d_MD_kindOfNine_8 : decode prog_12_method_80_code 8 = .ok (.ireturn, 1) := F_MD_kindOfNine_0.2.2.2.2.1
theorem d_MD_kindOfNine_9 : decode prog_12_method_80_code 9 = .ok (.aload_n 0, 1) := F_MD_kindOfNine_0.2.2.2.2.2.1
theorem d_MD_kindOfNine_10 : decode prog_12_method_80_code 10 = .ok (.getfield 41, 3) := F_MD_kindOfNine_0.2.2.2.2.2.2.1
theorem d_MD_kindOfNine_13 : decode prog_12_method_80_code 13 = .ok (.bipush (6), 2) := F_MD_kindOfNine_0.2.2.2.2.2.2.2.1
theorem d_MD_kindOfNine_15 : decode prog_12_method_80_code 15 = .ok (.laload, 1) := F_MD_kindOfNine_0.2.2.2.2.2.2.2.2.1
theorem d_MD_kindOfNine_16 : decode prog_12_method_80_code 16 = .ok (.lconst 0, 1) := F_MD_kindOfNine_0.2.2.2.2.2.2.2.2.2.1
theorem d_MD_kindOfNine_17 : decode prog_12_method_80_code 17 = .ok (.lcmp, 1) := F_MD_kindOfNine_0.2.2.2.2.2.2.2.2.2.2.1
theorem d_MD_kindOfNine_18 : decode prog_12_method_80_code 18 = .ok (.ifCond .ne (15), 3) := F_MD_kindOfNine_0.2.2.2.2.2.2.2.2.2.2.2.1
theorem d_MD_kindOfNine_21 : decode prog_12_method_80_code 21 = .ok (.aload_n 0, 1) := F_MD_kindOfNine_0.2.2.2.2.2.2.2.2.2.2.2.2.1
theorem d_MD_kindOfNine_22 : decode prog_12_method_80_code 22 = .ok (.getfield 41, 3) := F_MD_kindOfNine_0.2.2.2.2.2.2.2.2.2.2.2.2.2.1
theorem d_MD_kindOfNine_25 : decode prog_12_method_80_code 25 = .ok (.bipush (7), 2) := F_MD_kindOfNine_0.2.2.2.2.2.2.2.2.2.2.2.2.2.2.1
theorem d_MD_kindOfNine_27 : decode prog_12_method_80_code 27 = .ok (.laload, 1) := F_MD_kindOfNine_0.2.2.2.2.2.2.2.2.2.2.2.2.2.2.2.1
theorem d_MD_kindOfNine_28 : decode prog_12_method_80_code 28 = .ok (.lconst 0, 1) := F_MD_kindOfNine_0.2.2.2.2.2.2.2.2.2.2.2.2.2.2.2.2.1
theorem d_MD_kindOfNine_29 : decode prog_12_method_80_code 29 = .ok (.lcmp, 1) := F_MD_kindOfNine_0.2.2.2.2.2.2.2.2.2.2.2.2.2.2.2.2.2.1
theorem d_MD_kindOfNine_30 : decode prog_12_method_80_code 30 = .ok (.ifCond .eq (5), 3) := F_MD_kindOfNine_0.2.2.2.2.2.2.2.2.2.2.2.2.2.2.2.2.2.2.1
theorem d_MD_kindOfNine_33 : decode prog_12_method_80_code 33 = .ok (.iconst 5, 1) := F_MD_kindOfNine_0.2.2.2.2.2.2.2.2.2.2.2.2.2.2.2.2.2.2.2.1
theorem d_MD_kindOfNine_34 : decode prog_12_method_80_code 34 = .ok (.ireturn, 1) := F_MD_kindOfNine_0.2.2.2.2.2.2.2.2.2.2.2.2.2.2.2.2.2.2.2.2.1
theorem d_MD_kindOfNine_35 : decode prog_12_method_80_code 35 = .ok (.aload_n 0, 1) := F_MD_kindOfNine_0.2.2.2.2.2.2.2.2.2.2.2.2.2.2.2.2.2.2.2.2.2.1
theorem d_MD_kindOfNine_36 : decode prog_12_method_80_code 36 = .ok (.getfield 41, 3) := F_MD_kindOfNine_0.2.2.2.2.2.2.2.2.2.2.2.2.2.2.2.2.2.2.2.2.2.2.1
theorem d_MD_kindOfNine_39 : decode prog_12_method_80_code 39 = .ok (.bipush (8), 2) := F_MD_kindOfNine_0.2.2.2.2.2.2.2.2.2.2.2.2.2.2.2.2.2.2.2.2.2.2.2.1
theorem d_MD_kindOfNine_41 : decode prog_12_method_80_code 41 = .ok (.laload, 1) := F_MD_kindOfNine_0.2.2.2.2.2.2.2.2.2.2.2.2.2.2.2.2.2.2.2.2.2.2.2.2.1
theorem d_MD_kindOfNine_42 : decode prog_12_method_80_code 42 = .ok (.lstore_n 1, 1) := F_MD_kindOfNine_0.2.2.2.2.2.2.2.2.2.2.2.2.2.2.2.2.2.2.2.2.2.2.2.2.2.1
theorem d_MD_kindOfNine_43 : decode prog_12_method_80_code 43 = .ok (.aload_n 0, 1) := F_MD_kindOfNine_0.2.2.2.2.2.2.2.2.2.2.2.2.2.2.2.2.2.2.2.2.2.2.2.2.2.2.1
theorem d_MD_kindOfNine_44 : decode prog_12_method_80_code 44 = .ok (.getfield 41, 3) := F_MD_kindOfNine_0.2.2.2.2.2.2.2.2.2.2.2.2.2.2.2.2.2.2.2.2.2.2.2.2.2.2.2.1
theorem d_MD_kindOfNine_47 : decode prog_12_method_80_code 47 = .ok (.iconst 1, 1) := F_MD_kindOfNine_0.2.2.2.2.2.2.2.2.2.2.2.2.2.2.2.2.2.2.2.2.2.2.2.2.2.2.2.2.1
theorem d_MD_kindOfNine_48 : decode prog_12_method_80_code 48 = .ok (.laload, 1) := F_MD_kindOfNine_0.2.2.2.2.2.2.2.2.2.2.2.2.2.2.2.2.2.2.2.2.2.2.2.2.2.2.2.2.2.1
theorem d_MD_kindOfNine_49 : decode prog_12_method_80_code 49 = .ok (.lconst 0, 1) := F_MD_kindOfNine_0.2.2.2.2.2.2.2.2.2.2.2.2.2.2.2.2.2.2.2.2.2.2.2.2.2.2.2.2.2.2.1
theorem d_MD_kindOfNine_50 : decode prog_12_method_80_code 50 = .ok (.lcmp, 1) := F_MD_kindOfNine_0.2.2.2.2.2.2.2.2.2.2.2.2.2.2.2.2.2.2.2.2.2.2.2.2.2.2.2.2.2.2.2.1
theorem F_MD_kindOfNine_51 : Jvm.Free.DS.Facts prog_12_method_80_code 51 [(.ifCond .ne (38), 3), (.aload_n 0, 1), (.getfield 41, 3), (.iconst 3, 1), (.laload, 1), (.lconst 0, 1), (.lcmp, 1), (.ifCond .ne (27), 3), (.aload_n 0, 1), (.getfield 41, 3), (.iconst 0, 1), (.laload, 1), (.lload_n 1, 1), (.lcmp, 1), (.ifCond .ne (16), 3), (.aload_n 0, 1), (.getfield 41, 3), (.iconst 4, 1), (.laload, 1), (.lload_n 1, 1), (.lcmp, 1), (.ifCond .ne (5), 3), (.iconst 1, 1), (.ireturn, 1), (.aload_n 0, 1), (.getfield 41, 3), (.iconst 0, 1), (.laload, 1), (.aload_n 0, 1), (.getfield 41, 3), (.iconst 0, 1), (.laload, 1)] := Jvm.Free.DS.facts 51 _ (by decide +kernel) (by decide +kernel)
theorem d_MD_kindOfNine_51 : decode prog_12_method_80_code 51 = .ok (.ifCond .ne (38), 3) := F_MD_kindOfNine_51.1
theorem d_MD_kindOfNine_54 : decode prog_12_method_80_code 54 = .ok (.aload_n 0, 1) := F_MD_kindOfNine_51.2.1
theorem d_MD_kindOfNine_55 : decode prog_12_method_80_code 55 = .ok (.getfield 41, 3) := F_MD_kindOfNine_51.2.2.1
theorem d_MD_kindOfNine_58 : decode prog_12_method_80_code 58 = .ok (.iconst 3, 1) := F_MD_kindOfNine_51.2.2.2.1
theorem d_MD_kindOfNine_59 : decode prog_12_method_80_code 59 = .ok (.laload, 1) := F_MD_kindOfNine_51.2.2.2.2.1
theorem d_MD_kindOfNine_60 : decode prog_12_method_80_code 60 = .ok (.lconst 0, 1) := F_MD_kindOfNine_51.2.2.2.2.2.1
theorem d_MD_kindOfNine_61 : decode prog_12_method_80_code 61 = .ok (.lcmp, 1) := F_MD_kindOfNine_51.2.2.2.2.2.2.1
theorem d_MD_kindOfNine_62 : decode prog_12_method_80_code 62 = .ok (.ifCond .ne (27), 3) := F_MD_kindOfNine_51.2.2.2.2.2.2.2.1
theorem d_MD_kindOfNine_65 : decode prog_12_method_80_code 65 = .ok (.aload_n 0, 1) := F_MD_kindOfNine_51.2.2.2.2.2.2.2.2.1
theorem d_MD_kindOfNine_66 : decode prog_12_method_80_code 66 = .ok (.getfield 41, 3) := F_MD_kindOfNine_51.2.2.2.2.2.2.2.2.2.1
theorem d_MD_kindOfNine_69 : decode prog_12_method_80_code 69 = .ok (.iconst 0, 1) := F_MD_kindOfNine_51.2.2.2.2.2.2.2.2.2.2.1
theorem d_MD_kindOfNine_70 : decode prog_12_method_80_code 70 = .ok (.laload, 1) := F_MD_kindOfNine_51.2.2.2.2.2.2.2.2.2.2.2.1
theorem d_MD_kindOfNine_71 : decode prog_12_method_80_code 71 = .ok (.lload_n 1, 1) := F_MD_kindOfNine_51.2.2.2.2.2.2.2.2.2.2.2.2.1
theorem d_MD_kindOfNine_72 : decode prog_12_method_80_code 72 = .ok (.lcmp, 1) := F_MD_kindOfNine_51.2.2.2.2.2.2.2.2.2.2.2.2.2.1
theorem d_MD_kindOfNine_73 : decode prog_12_method_80_code 73 = .ok (.ifCond .ne (16), 3) := F_MD_kindOfNine_51.2.2.2.2.2.2.2.2.2.2.2.2.2.2.1
theorem d_MD_kindOfNine_76 : decode prog_12_method_80_code 76 = .ok (.aload_n 0, 1) := F_MD_kindOfNine_51.2.2.2.2.2.2.2.2.2.2.2.2.2.2.2.1
theorem d_MD_kindOfNine_77 : decode prog_12_method_80_code 77 = .ok (.getfield 41, 3) := F_MD_kindOfNine_51.2.2.2.2.2.2.2.2.2.2.2.2.2.2.2.2.1
theorem d_MD_kindOfNine_80 : decode prog_12_method_80_code 80 = .ok (.iconst 4, 1) := F_MD_kindOfNine_51.2.2.2.2.2.2.2.2.2.2.2.2.2.2.2.2.2.1
theorem d_MD_kindOfNine_81 : decode prog_12_method_80_code 81 = .ok (.laload, 1) := F_MD_kindOfNine_51.2.2.2.2.2.2.2.2.2.2.2.2.2.2.2.2.2.2.1
theorem d_MD_kindOfNine_82 : decode prog_12_method_80_code 82 = .ok (.lload_n 1, 1) := F_MD_kindOfNine_51.2.2.2.2.2.2.2.2.2.2.2.2.2.2.2.2.2.2.2.1
theorem d_MD_kindOfNine_83 : decode prog_12_method_80_code 83 = .ok (.lcmp, 1) := F_MD_kindOfNine_51.2.2.2.2.2.2.2.2.2.2.2.2.2.2.2.2.2.2.2.2.1
theorem d_MD_kindOfNine_84 : decode prog_12_method_80_code 84 = .ok (.ifCond .ne (5), 3) := F_MD_kindOfNine_51.2.2.2.2.2.2.2.2.2.2.2.2.2.2.2.2.2.2.2.2.2.1
theorem d_MD_kindOfNine_87 : decode prog_12_method_80_code 87 = .ok (.iconst 1, 1) := F_MD_kindOfNine_51.2.2.2.2.2.2.2.2.2.2.2.2.2.2.2.2.2.2.2.2.2.2.1
theorem d_MD_kindOfNine_88 : decode prog_12_method_80_code 88 = .ok (.ireturn, 1) := F_MD_kindOfNine_51.2.2.2.2.2.2.2.2.2.2.2.2.2.2.2.2.2.2.2.2.2.2.2.1
theorem d_MD_kindOfNine_89 : decode prog_12_method_80_code 89 = .ok (.aload_n 0, 1) := F_MD_kindOfNine_51.2.2.2.2.2.2.2.2.2.2.2.2.2.2.2.2.2.2.2.2.2.2.2.2.1
theorem d_MD_kindOfNine_90 : decode prog_12_method_80_code 90 = .ok (.getfield 41, 3) := F_MD_kindOfNine_51.2.2.2.2.2.2.2.2.2.2.2.2.2.2.2.2.2.2.2.2.2.2.2.2.2.1
theorem d_MD_kindOfNine_93 : decode prog_12_method_80_code 93 = .ok (.iconst 0, 1) := F_MD_kindOfNine_51.2.2.2.2.2.2.2.2.2.2.2.2.2.2.2.2.2.2.2.2.2.2.2.2.2.2.1
theorem d_MD_kindOfNine_94 : decode prog_12_method_80_code 94 = .ok (.laload, 1) := F_MD_kindOfNine_51.2.2.2.2.2.2.2.2.2.2.2.2.2.2.2.2.2.2.2.2.2.2.2.2.2.2.2.1
theorem d_MD_kindOfNine_95 : decode prog_12_method_80_code 95 = .ok (.aload_n 0, 1) := F_MD_kindOfNine_51.2.2.2.2.2.2.2.2.2.2.2.2.2.2.2.2.2.2.2.2.2.2.2.2.2.2.2.2.1
theorem d_MD_kindOfNine_96 : decode prog_12_method_80_code 96 = .ok (.getfield 41, 3) := F_MD_kindOfNine_51.2.2.2.2.2.2.2.2.2.2.2.2.2.2.2.2.2.2.2.2.2.2.2.2.2.2.2.2.2.1
theorem d_MD_kindOfNine_99 : decode prog_12_method_80_code 99 = .ok (.iconst 0, 1) := F_MD_kindOfNine_51.2.2.2.2.2.2.2.2.2.2.2.2.2.2.2.2.2.2.2.2.2.2.2.2.2.2.2.2.2.2.1
theorem d_MD_kindOfNine_100 : decode prog_12_method_80_code 100 = .ok (.laload, 1) := F_MD_kindOfNine_51.2.2.2.2.2.2.2.2.2.2.2.2.2.2.2.2.2.2.2.2.2.2.2.2.2.2.2.2.2.2.2.1
theorem F_MD_kindOfNine_101 : Jvm.Free.DS.Facts prog_12_method_80_code 101 [(.lmul, 1), (.aload_n 0, 1), (.getfield 41, 3), (.iconst 3, 1), (.laload, 1), (.aload_n 0, 1), (.getfield 41, 3), (.iconst 3, 1), (.laload, 1), (.lmul, 1), (.ladd, 1), (.lstore_n 3, 1), (.aload_n 0, 1), (.getfield 41, 3), (.iconst 1, 1), (.laload, 1), (.aload_n 0, 1), (.getfield 41, 3), (.iconst 1, 1), (.laload, 1), (.lmul, 1), (.aload_n 0, 1), (.getfield 41, 3), (.iconst 4, 1), (.laload, 1), (.aload_n 0, 1), (.getfield 41, 3), (.iconst 4, 1), (.laload, 1), (.lmul, 1), (.ladd, 1), (.lstore 5, 2)] := Jvm.Free.DS.facts 101 _ (by decide +kernel) (by decide +kernel)
theorem d_MD_kindOfNine_101 : decode prog_12_method_80_code 101 = .ok (.lmul, 1) := F_MD_kindOfNine_101.1
theorem d_MD_kindOfNine_102 : decode prog_12_method_80_code 102 = .ok (.aload_n 0, 1) := F_MD_kindOfNine_101.2.1
theorem d_MD_kindOfNine_103 : decode prog_12_method_80_code 103 = .ok (.getfield 41, 3) := F_MD_kindOfNine_101.2.2.1
theorem d_MD_kindOfNine_106 : decode prog_12_method_80_code 106 = .ok (.iconst 3, 1) := F_MD_kindOfNine_101.2.2.2.1
theorem d_MD_kindOfNine_107 : decode prog_12_method_80_code 107 = .ok (.laload, 1) := F_MD_kindOfNine_101.2.2.2.2.1
theorem d_MD_kindOfNine_108 : decode prog_12_method_80_code 108 = .ok (.aload_n 0, 1) := F_MD_kindOfNine_101.2.2.2.2.2.1
theorem d_MD_kindOfNine_109 : decode prog_12_method_80_code 109 = .ok (.getfield 41, 3) := F_MD_kindOfNine_101.2.2.2.2.2.2.1
theorem d_MD_kindOfNine_112 : decode prog_12_method_80_code 112 = .ok (.iconst 3, 1) := F_MD_kindOfNine_101.2.2.2.2.2.2.2.1
theorem d_MD_kindOfNine_113 : decode prog_12_method_80_code 113 = .ok (.laload, 1) := F_MD_kindOfNine_101.2.2.2.2.2.2.2.2.1
theorem d_MD_kindOfNine_114 : decode prog_12_method_80_code 114 = .ok (.lmul, 1) := F_MD_kindOfNine_101.2.2.2.2.2.2.2.2.2.1
theorem d_MD_kindOfNine_115 : decode prog_12_method_80_code 115 = .ok (.ladd, 1) := F_MD_kindOfNine_101.2.2.2.2.2.2.2.2.2.2.1
theorem d_MD_kindOfNine_116 : decode prog_12_method_80_code 116 = .ok (.lstore_n 3, 1) := F_MD_kindOfNine_101.2.2.2.2.2.2.2.2.2.2.2.1
theorem d_MD_kindOfNine_117 : decode prog_12_method_80_code 117 = .ok (.aload_n 0, 1) := F_MD_kindOfNine_101.2.2.2.2.2.2.2.2.2.2.2.2.1
theorem d_MD_kindOfNine_118 : decode prog_12_method_80_code 118 = .ok (.getfield 41, 3) := F_MD_kindOfNine_101.2.2.2.2.2.2.2.2.2.2.2.2.2.1
theorem d_MD_kindOfNine_121 : decode prog_12_method_80_code 121 = .ok (.iconst 1, 1) := F_MD_kindOfNine_101.2.2.2.2.2.2.2.2.2.2.2.2.2.2.1
theorem d_MD_kindOfNine_122 : decode prog_12_method_80_code 122 = .ok (.laload, 1) := F_MD_kindOfNine_101.2.2.2.2.2.2.2.2.2.2.2.2.2.2.2.1
theorem d_MD_kindOfNine_123 : decode prog_12_method_80_code 123 = .ok (.aload_n 0, 1) := F_MD_kindOfNine_101.2.2.2.2.2.2.2.2.2.2.2.2.2.2.2.2.1
theorem d_MD_kindOfNine_124 : decode prog_12_method_80_code 124 = .ok (.getfield 41, 3) := F_MD_kindOfNine_101.2.2.2.2.2.2.2.2.2.2.2.2.2.2.2.2.2.1
theorem d_MD_kindOfNine_127 : decode prog_12_method_80_code 127 = .ok (.iconst 1, 1) := F_MD_kindOfNine_101.2.2.2.2.2.2.2.2.2.2.2.2.2.2.2.2.2.2.1
theorem d_MD_kindOfNine_128 : decode prog_12_method_80_code 128 = .ok (.laload, 1) := F_MD_kindOfNine_101.2.2.2.2.2.2.2.2.2.2.2.2.2.2.2.2.2.2.2.1
theorem d_MD_kindOfNine_129 : decode prog_12_method_80_code 129 = .ok (.lmul, 1) := F_MD_kindOfNine_101.2.2.2.2.2.2.2.2.2.2.2.2.2.2.2.2.2.2.2.2.1
theorem d_MD_kindOfNine_130 : decode prog_12_method_80_code 130 = .ok (.aload_n 0, 1) := F_MD_kindOfNine_101.2.2.2.2.2.2.2.2.2.2.2.2.2.2.2.2.2.2.2.2.2.1
theorem d_MD_kindOfNine_131 : decode prog_12_method_80_code 131 = .ok (.getfield 41, 3) := F_MD_kindOfNine_101.2.2.2.2.2.2.2.2.2.2.2.2.2.2.2.2.2.2.2.2.2.2.1
theorem d_MD_kindOfNine_134 : decode prog_12_method_80_code 134 = .ok (.iconst 4, 1) := F_MD_kindOfNine_101.2.2.2.2.2.2.2.2.2.2.2.2.2.2.2.2.2.2.2.2.2.2.2.1
theorem d_MD_kindOfNine_135 : decode prog_12_method_80_code 135 = .ok (.laload, 1) := F_MD_kindOfNine_101.2.2.2.2.2.2.2.2.2.2.2.2.2.2.2.2.2.2.2.2.2.2.2.2.1
theorem d_MD_kindOfNine_136 : decode prog_12_method_80_code 136 = .ok (.aload_n 0, 1) := F_MD_kindOfNine_101.2.2.2.2.2.2.2.2.2.2.2.2.2.2.2.2.2.2.2.2.2.2.2.2.2.1
theorem d_MD_kindOfNine_137 : decode prog_12_method_80_code 137 = .ok (.getfield 41, 3) := F_MD_kindOfNine_101.2.2.2.2.2.2.2.2.2.2.2.2.2.2.2.2.2.2.2.2.2.2.2.2.2.2.1
theorem d_MD_kindOfNine_140 : decode prog_12_method_80_code 140 = .ok (.iconst 4, 1) := F_MD_kindOfNine_101.2.2.2.2.2.2.2.2.2.2.2.2.2.2.2.2.2.2.2.2.2.2.2.2.2.2.2.1
theorem d_MD_kindOfNine_141 : decode prog_12_method_80_code 141 = .ok (.laload, 1) := F_MD_kindOfNine_101.2.2.2.2.2.2.2.2.2.2.2.2.2.2.2.2.2.2.2.2.2.2.2.2.2.2.2.2.1
theorem d_MD_kindOfNine_142 : decode prog_12_method_80_code 142 = .ok (.lmul, 1) := F_MD_kindOfNine_101.2.2.2.2.2.2.2.2.2.2.2.2.2.2.2.2.2.2.2.2.2.2.2.2.2.2.2.2.2.1
theorem d_MD_kindOfNine_143 : decode prog_12_method_80_code 143 = .ok (.ladd, 1) := F_MD_kindOfNine_101.2.2.2.2.2.2.2.2.2.2.2.2.2.2.2.2.2.2.2.2.2.2.2.2.2.2.2.2.2.2.1
theorem d_MD_kindOfNine_144 : decode prog_12_method_80_code 144 = .ok (.lstore 5, 2) := F_MD_kindOfNine_101.2.2.2.2.2.2.2.2.2.2.2.2.2.2.2.2.2.2.2.2.2.2.2.2.2.2.2.2.2.2.2.1
theorem F_MD_kindOfNine_146 : Jvm.Free.DS.Facts prog_12_method_80_code 146 [(.lload_n 3, 1), (.lload 5, 2), (.lcmp, 1), (.ifCond .ne (39), 3), (.aload_n 0, 1), (.getfield 41, 3), (.iconst 0, 1), (.laload, 1), (.aload_n 0, 1), (.getfield 41, 3), (.iconst 1, 1), (.laload, 1), (.lmul, 1), (.aload_n 0, 1), (.getfield 41, 3), (.iconst 3, 1), (.laload, 1), (.aload_n 0, 1), (.getfield 41, 3), (.iconst 4, 1), (.laload, 1), (.lmul, 1), (.ladd, 1), (.lconst 0, 1), (.lcmp, 1), (.ifCond .ne (7), 3), (.iconst 1, 1), (.goto (4), 3), (.iconst 0, 1), (.istore 7, 2), (.iload 7, 2), (.ifCond .ne (7), 3)] := Jvm.Free.DS.facts 146 _ (by decide +kernel) (by decide +kernel)
theorem d_MD_kindOfNine_146 : decode prog_12_method_80_code 146 = .ok (.lload_n 3, 1) := F_MD_kindOfNine_146.1
theorem d_MD_kindOfNine_147 : decode prog_12_method_80_code 147 = .ok (.lload 5, 2) := F_MD_kindOfNine_146.2.1
theorem d_MD_kindOfNine_149 : decode prog_12_method_80_code 149 = .ok (.lcmp, 1) := F_MD_kindOfNine_146.2.2.1
theorem d_MD_kindOfNine_150 : decode prog_12_method_80_code 150 = .ok (.ifCond .ne (39), 3) := F_MD_kindOfNine_146.2.2.2.1
theorem d_MD_kindOfNine_153 : decode prog_12_method_80_code 153 = .ok (.aload_n 0, 1) := F_MD_kindOfNine_146.2.2.2.2.1
theorem d_MD_kindOfNine_154 : decode prog_12_method_80_code 154 = .ok (.getfield 41, 3) := F_MD_kindOfNine_146.2.2.2.2.2.1
theorem d_MD_kindOfNine_157 : decode prog_12_method_80_code 157 = .ok (.iconst 0, 1) := F_MD_kindOfNine_146.2.2.2.2.2.2.1
theorem d_MD_kindOfNine_158 : decode prog_12_method_80_code 158 = .ok (.laload, 1) := F_MD_kindOfNine_146.2.2.2.2.2.2.2.1
theorem d_MD_kindOfNine_159 : decode prog_12_method_80_code 159 = .ok (.aload_n 0, 1) := F_MD_kindOfNine_146.2.2.2.2.2.2.2.2.1
theorem d_MD_kindOfNine_160 : decode prog_12_method_80_code 160 = .ok (.getfield 41, 3) := F_MD_kindOfNine_146.2.2.2.2.2.2.2.2.2.1
theorem d_MD_kindOfNine_163 : decode prog_12_method_80_code 163 = .ok (.iconst 1, 1) := F_MD_kindOfNine_146.2.2.2.2.2.2.2.2.2.2.1
theorem d_MD_kindOfNine_164 : decode prog_12_method_80_code 164 = .ok (.laload, 1) := F_MD_kindOfNine_146.2.2.2.2.2.2.2.2.2.2.2.1
theorem d_MD_kindOfNine_165 : decode prog_12_method_80_code 165 = .ok (.lmul, 1) := F_MD_kindOfNine_146.2.2.2.2.2.2.2.2.2.2.2.2.1
theorem d_MD_kindOfNine_166 : decode prog_12_method_80_code 166 = .ok (.aload_n 0, 1) := F_MD_kindOfNine_146.2.2.2.2.2.2.2.2.2.2.2.2.2.1
theorem d_MD_kindOfNine_167 : decode prog_12_method_80_code 167 = .ok (.getfield 41, 3) := F_MD_kindOfNine_146.2.2.2.2.2.2.2.2.2.2.2.2.2.2.1
theorem d_MD_kindOfNine_170 : decode prog_12_method_80_code 170 = .ok (.iconst 3, 1) := F_MD_kindOfNine_146.2.2.2.2.2.2.2.2.2.2.2.2.2.2.2.1
theorem d_MD_kindOfNine_171 : decode prog_12_method_80_code 171 = .ok (.laload, 1) := F_MD_kindOfNine_146.2.2.2.2.2.2.2.2.2.2.2.2.2.2.2.2.1
theorem d_MD_kindOfNine_172 : decode prog_12_method_80_code 172 = .ok (.aload_n 0, 1) := F_MD_kindOfNine_146.2.2.2.2.2.2.2.2.2.2.2.2.2.2.2.2.2.1
theorem d_MD_kindOfNine_173 : decode prog_12_method_80_code 173 = .ok (.getfield 41, 3) := F_MD_kindOfNine_146.2.2.2.2.2.2.2.2.2.2.2.2.2.2.2.2.2.2.1
theorem d_MD_kindOfNine_176 : decode prog_12_method_80_code 176 = .ok (.iconst 4, 1) := F_MD_kindOfNine_146.2.2.2.2.2.2.2.2.2.2.2.2.2.2.2.2.2.2.2.1
theorem d_MD_kindOfNine_177 : decode prog_12_method_80_code 177 = .ok (.laload, 1) := F_MD_kindOfNine_146.2.2.2.2.2.2.2.2.2.2.2.2.2.2.2.2.2.2.2.2.1
theorem d_MD_kindOfNine_178 : decode prog_12_method_80_code 178 = .ok (.lmul, 1) := F_MD_kindOfNine_146.2.2.2.2.2.2.2.2.2.2.2.2.2.2.2.2.2.2.2.2.2.1
theorem d_MD_kindOfNine_179 : decode prog_12_method_80_code 179 = .ok (.ladd, 1) := F_MD_kindOfNine_146.2.2.2.2.2.2.2.2.2.2.2.2.2.2.2.2.2.2.2.2.2.2.1
theorem d_MD_kindOfNine_180 : decode prog_12_method_80_code 180 = .ok (.lconst 0, 1) := F_MD_kindOfNine_146.2.2.2.2.2.2.2.2.2.2.2.2.2.2.2.2.2.2.2.2.2.2.2.1
theorem d_MD_kindOfNine_181 : decode prog_12_method_80_code 181 = .ok (.lcmp, 1) := F_MD_kindOfNine_146.2.2.2.2.2.2.2.2.2.2.2.2.2.2.2.2.2.2.2.2.2.2.2.2.1
theorem d_MD_kindOfNine_182 : decode prog_12_method_80_code 182 = .ok (.ifCond .ne (7), 3) := F_MD_kindOfNine_146.2.2.2.2.2.2.2.2.2.2.2.2.2.2.2.2.2.2.2.2.2.2.2.2.2.1
theorem d_MD_kindOfNine_185 : decode prog_12_method_80_code 185 = .ok (.iconst 1, 1) := F_MD_kindOfNine_146.2.2.2.2.2.2.2.2.2.2.2.2.2.2.2.2.2.2.2.2.2.2.2.2.2.2.1
theorem d_MD_kindOfNine_186 : decode prog_12_method_80_code 186 = .ok (.goto (4), 3) := F_MD_kindOfNine_146.2.2.2.2.2.2.2.2.2.2.2.2.2.2.2.2.2.2.2.2.2.2.2.2.2.2.2.1
theorem d_MD_kindOfNine_189 : decode prog_12_method_80_code 189 = .ok (.iconst 0, 1) := F_MD_kindOfNine_146.2.2.2.2.2.2.2.2.2.2.2.2.2.2.2.2.2.2.2.2.2.2.2.2.2.2.2.2.1
theorem d_MD_kindOfNine_190 : decode prog_12_method_80_code 190 = .ok (.istore 7, 2) := F_MD_kindOfNine_146.2.2.2.2.2.2.2.2.2.2.2.2.2.2.2.2.2.2.2.2.2.2.2.2.2.2.2.2.2.1
theorem d_MD_kindOfNine_192 : decode prog_12_method_80_code 192 = .ok (.iload 7, 2) := F_MD_kindOfNine_146.2.2.2.2.2.2.2.2.2.2.2.2.2.2.2.2.2.2.2.2.2.2.2.2.2.2.2.2.2.2.1
theorem d_MD_kindOfNine_194 : decode prog_12_method_80_code 194 = .ok (.ifCond .ne (7), 3) := F_MD_kindOfNine_146.2.2.2.2.2.2.2.2.2.2.2.2.2.2.2.2.2.2.2.2.2.2.2.2.2.2.2.2.2.2.2.1
theorem F_MD_kindOfNine_197 : Jvm.Free.DS.Facts prog_12_method_80_code 197 [(.iconst 4, 1), (.goto (16), 3), (.lload_n 3, 1), (.lload_n 1, 1), (.lload_n 1, 1), (.lmul, 1), (.lcmp, 1), (.ifCond .ne (7), 3), (.iconst 2, 1), (.goto (4), 3), (.iconst 3, 1), (.ireturn, 1)] := Jvm.Free.DS.facts 197 _ (by decide +kernel) (by decide +kernel)
theorem d_MD_kindOfNine_197 : decode prog_12_method_80_code 197 = .ok (.iconst 4, 1) := F_MD_kindOfNine_197.1
theorem d_MD_kindOfNine_198 : decode prog_12_method_80_code 198 = .ok (.goto (16), 3) := F_MD_kindOfNine_197.2.1
theorem d_MD_kindOfNine_201 : decode prog_12_method_80_code 201 = .ok (.lload_n 3, 1) := F_MD_kindOfNine_197.2.2.1
theorem d_MD_kindOfNine_202 : decode prog_12_method_80_code 202 = .ok (.lload_n 1, 1) := F_MD_kindOfNine_197.2.2.2.1
theorem d_MD_kindOfNine_203 : decode prog_12_method_80_code 203 = .ok (.lload_n 1, 1) := F_MD_kindOfNine_197.2.2.2.2.1
theorem d_MD_kindOfNine_204 : decode prog_12_method_80_code 204 = .ok (.lmul, 1) := F_MD_kindOfNine_197.2.2.2.2.2.1
theorem d_MD_kindOfNine_205 : decode prog_12_method_80_code 205 = .ok (.lcmp, 1) := F_MD_kindOfNine_197.2.2.2.2.2.2.1
theorem d_MD_kindOfNine_206 : decode prog_12_method_80_code 206 = .ok (.ifCond .ne (7), 3) := F_MD_kindOfNine_197.2.2.2.2.2.2.2.1
theorem d_MD_kindOfNine_209 : decode prog_12_method_80_code 209 = .ok (.iconst 2, 1) := F_MD_kindOfNine_197.2.2.2.2.2.2.2.2.1
theorem d_MD_kindOfNine_210 : decode prog_12_method_80_code 210 = .ok (.goto (4), 3) := F_MD_kindOfNine_197.2.2.2.2.2.2.2.2.2.1
theorem d_MD_kindOfNine_213 : decode prog_12_method_80_code 213 = .ok (.iconst 3, 1) := F_MD_kindOfNine_197.2.2.2.2.2.2.2.2.2.2.1
theorem d_MD_kindOfNine_214 : decode prog_12_method_80_code 214 = .ok (.ireturn, 1) := F_MD_kindOfNine_197.2.2.2.2.2.2.2.2.2.2.2.1
theorem F_MD_isNothing_0 : Jvm.Free.DS.Facts prog_12_method_31_code 0 [(.iconst 0, 1), (.istore_n 1, 1), (.iload_n 1, 1), (.bipush (9), 2), (.if_icmp .ge (32), 3), (.aload_n 0, 1), (.getfield 41, 3), (.iload_n 1, 1), (.laload, 1), (.iload_n 1, 1), (.iconst 4, 1), (.irem, 1), (.ifCond .ne (7), 3), (.lconst 1, 1), (.goto (4), 3), (.lconst 0, 1), (.lcmp, 1), (.ifCond .eq (5), 3), (.iconst 0, 1), (.ireturn, 1), (.iinc 1 (1), 3), (.goto (-32), 3), (.iconst 1, 1), (.ireturn, 1)] := Jvm.Free.DS.facts 0 _ (by decide +kernel) (by decide +kernel)
theorem d_MD_isNothing_0 : decode prog_12_method_31_code 0 = .ok (.iconst 0, 1) := F_MD_isNothing_0.1
theorem d_MD_isNothing_1 : decode prog_12_method_31_code 1 = .ok (.istore_n 1, 1) := F_MD_isNothing_0.2.1
theorem d_MD_isNothing_2 : decode prog_12_method_31_code 2 = .ok (.iload_n 1, 1) := F_MD_isNothing_0.2.2.1
theorem d_MD_isNothing_3 : decode prog_12_method_31_code 3 = .ok (.bipush (9), 2) := F_MD_isNothing_0.2.2.2.1
theorem d_MD_isNothing_5 : decode prog_12_method_31_code 5 = .ok (.if_icmp .ge (32), 3) := F_MD_isNothing_0.2.2.2.2.1
theorem d_MD_isNothing_8 : decode prog_12_method_31_code 8 = .ok (.aload_n 0, 1) := F_MD_isNothing_0.2.2.2.2.2.1
theorem d_MD_isNothing_9 : decode prog_12_method_31_code 9 = .ok (.getfield 41, 3) := F_MD_isNothing_0.2.2.2.2.2.2.1
theorem d_MD_isNothing_12 : decode prog_12_method_31_code 12 = .ok (.iload_n 1, 1) := F_MD_isNothing_0.2.2.2.2.2.2.2.1
theorem d_MD_isNothing_13 : decode prog_12_method_31_code 13 = .ok (.laload, 1) := F_MD_isNothing_0.2.2.2.2.2.2.2.2.1
theorem d_MD_isNothing_14 : decode prog_12_method_31_code 14 = .ok (.iload_n 1, 1) := F_MD_isNothing_0.2.2.2.2.2.2.2.2.2.1
theorem d_MD_isNothing_15 : decode prog_12_method_31_code 15 = .ok (.iconst 4, 1) := F_MD_isNothing_0.2.2.2.2.2.2.2.2.2.2.1
theorem d_MD_isNothing_16 : decode prog_12_method_31_code 16 = .ok (.irem, 1) := F_MD_isNothing_0.2.2.2.2.2.2.2.2.2.2.2.1
theorem d_MD_isNothing_17 : decode prog_12_method_31_code 17 = .ok (.ifCond .ne (7), 3) := F_MD_isNothing_0.2.2.2.2.2.2.2.2.2.2.2.2.1
theorem d_MD_isNothing_20 : decode prog_12_method_31_code 20 = .ok (.lconst 1, 1) := F_MD_isNothing_0.2.2.2.2.2.2.2.2.2.2.2.2.2.1
theorem d_MD_isNothing_21 : decode prog_12_method_31_code 21 = .ok (.goto (4), 3) := F_MD_isNothing_0.2.2.2.2.2.2.2.2.2.2.2.2.2.2.1
theorem d_MD_isNothing_24 : decode prog_12_method_31_code 24 = .ok (.lconst 0, 1) := F_MD_isNothing_0.2.2.2.2.2.2.2.2.2.2.2.2.2.2.2.1
theorem d_MD_isNothing_25 : decode prog_12_method_31_code 25 = .ok (.lcmp, 1) := F_MD_isNothing_0.2.2.2.2.2.2.2.2.2.2.2.2.2.2.2.2.1
theorem d_MD_isNothing_26 : decode prog_12_method_31_code 26 = .ok (.ifCond .eq (5), 3) := F_MD_isNothing_0.2.2.2.2.2.2.2.2.2.2.2.2.2.2.2.2.2.1
theorem d_MD_isNothing_29 : decode prog_12_method_31_code 29 = .ok (.iconst 0, 1) := F_MD_isNothing_0.2.2.2.2.2.2.2.2.2.2.2.2.2.2.2.2.2.2.1
theorem d_MD_isNothing_30 : decode prog_12_method_31_code 30 = .ok (.ireturn, 1) := F_MD_isNothing_0.2.2.2.2.2.2.2.2.2.2.2.2.2.2.2.2.2.2.2.1
theorem d_MD_isNothing_31 : decode prog_12_method_31_code 31 = .ok (.iinc 1 (1), 3) := F_MD_isNothing_0.2.2.2.2.2.2.2.2.2.2.2.2.2.2.2.2.2.2.2.2.1
theorem d_MD_isNothing_34 : decode prog_12_method_31_code 34 = .ok (.goto (-32), 3) := F_MD_isNothing_0.2.2.2.2.2.2.2.2.2.2.2.2.2.2.2.2.2.2.2.2.2.1
theorem d_MD_isNothing_37 : decode prog_12_method_31_code 37 = .ok (.iconst 1, 1) := F_MD_isNothing_0.2.2.2.2.2.2.2.2.2.2.2.2.2.2.2.2.2.2.2.2.2.2.1
theorem d_MD_isNothing_38 : decode prog_12_method_31_code 38 = .ok (.ireturn, 1) := F_MD_isNothing_0.2.2.2.2.2.2.2.2.2.2.2.2.2.2.2.2.2.2.2.2.2.2.2.1
theorem F_MD_turn_0 : Jvm.Free.DS.Facts prog_12_method_81_code 0 [(.aload_n 0, 1), (.iconst 0, 1), (.putfield 74, 3), (.aload_n 0, 1), (.iload_n 1, 1), (.invokevirtual 241, 3), (.ifCond .ne (5), 3), (.iconst 0, 1), (.ireturn, 1), (.aload_n 0, 1), (.aload_n 0, 1), (.getfield 41, 3), (.iload_n 1, 1), (.invokevirtual 274, 3), (.iconst 0, 1), (.istore_n 2, 1), (.iload_n 2, 1), (.bipush (9), 2), (.if_icmp .ge (27), 3), (.aload_n 0, 1), (.getfield 41, 3), (.iload_n 2, 1), (.laload, 1), (.invokestatic 210, 3), (.ldc2_w 329, 3), (.lcmp, 1), (.ifCond .le (5), 3), (.iconst 2, 1), (.ireturn, 1), (.iinc 2 (1), 3), (.goto (-27), 3), (.aload_n 0, 1)] := Jvm.Free.DS.facts 0 _ (by decide +kernel) (by decide +kernel)
theorem d_MD_turn_0 : decode prog_12_method_81_code 0 = .ok (.aload_n 0, 1) := F_MD_turn_0.1
theorem d_MD_turn_1 : decode prog_12_method_81_code 1 = .ok (.iconst 0, 1) := F_MD_turn_0.2.1
theorem d_MD_turn_2 : decode prog_12_method_81_code 2 = .ok (.putfield 74, 3) := F_MD_turn_0.2.2.1
theorem d_MD_turn_5 : decode prog_12_method_81_code 5 = .ok (.aload_n 0, 1) := F_MD_turn_0.2.2.2.1
theorem d_MD_turn_6 : decode prog_12_method_81_code 6 = .ok (.iload_n 1, 1) := F_MD_turn_0.2.2.2.2.1
theorem d_MD_turn_7 : decode prog_12_method_81_code 7 = .ok (.invokevirtual 241, 3) := F_MD_turn_0.2.2.2.2.2.1
theorem d_MD_turn_10 : decode prog_12_method_81_code 10 = .ok (.ifCond .ne (5), 3) := F_MD_turn_0.2.2.2.2.2.2.1
theorem d_MD_turn_13 : decode prog_12_method_81_code 13 = .ok (.iconst 0, 1) := F_MD_turn_0.2.2.2.2.2.2.2.1
theorem d_MD_turn_14 : decode prog_12_method_81_code 14 = .ok (.ireturn, 1) := F_MD_turn_0.2.2.2.2.2.2.2.2.1
theorem d_MD_turn_15 : decode prog_12_method_81_code 15 = .ok (.aload_n 0, 1) := F_MD_turn_0.2.2.2.2.2.2.2.2.2.1
theorem d_MD_turn_16 : decode prog_12_method_81_code 16 = .ok (.aload_n 0, 1) := F_MD_turn_0.2.2.2.2.2.2.2.2.2.2.1
theorem d_MD_turn_17 : decode prog_12_method_81_code 17 = .ok (.getfield 41, 3) := F_MD_turn_0.2.2.2.2.2.2.2.2.2.2.2.1
theorem d_MD_turn_20 : decode prog_12_method_81_code 20 = .ok (.iload_n 1, 1) := F_MD_turn_0.2.2.2.2.2.2.2.2.2.2.2.2.1
theorem d_MD_turn_21 : decode prog_12_method_81_code 21 = .ok (.invokevirtual 274, 3) := F_MD_turn_0.2.2.2.2.2.2.2.2.2.2.2.2.2.1
theorem d_MD_turn_24 : decode prog_12_method_81_code 24 = .ok (.iconst 0, 1) := F_MD_turn_0.2.2.2.2.2.2.2.2.2.2.2.2.2.2.1
theorem d_MD_turn_25 : decode prog_12_method_81_code 25 = .ok (.istore_n 2, 1) := F_MD_turn_0.2.2.2.2.2.2.2.2.2.2.2.2.2.2.2.1
theorem d_MD_turn_26 : decode prog_12_method_81_code 26 = .ok (.iload_n 2, 1) := F_MD_turn_0.2.2.2.2.2.2.2.2.2.2.2.2.2.2.2.2.1
theorem d_MD_turn_27 : decode prog_12_method_81_code 27 = .ok (.bipush (9), 2) := F_MD_turn_0.2.2.2.2.2.2.2.2.2.2.2.2.2.2.2.2.2.1
theorem d_MD_turn_29 : decode prog_12_method_81_code 29 = .ok (.if_icmp .ge (27), 3) := F_MD_turn_0.2.2.2.2.2.2.2.2.2.2.2.2.2.2.2.2.2.2.1
theorem d_MD_turn_32 : decode prog_12_method_81_code 32 = .ok (.aload_n 0, 1) := F_MD_turn_0.2.2.2.2.2.2.2.2.2.2.2.2.2.2.2.2.2.2.2.1
theorem d_MD_turn_33 : decode prog_12_method_81_code 33 = .ok (.getfield 41, 3) := F_MD_turn_0.2.2.2.2.2.2.2.2.2.2.2.2.2.2.2.2.2.2.2.2.1
theorem d_MD_turn_36 : decode prog_12_method_81_code 36 = .ok (.iload_n 2, 1) := F_MD_turn_0.2.2.2.2.2.2.2.2.2.2.2.2.2.2.2.2.2.2.2.2.2.1
theorem d_MD_turn_37 : decode prog_12_method_81_code 37 = .ok (.laload, 1) := F_MD_turn_0.2.2.2.2.2.2.2.2.2.2.2.2.2.2.2.2.2.2.2.2.2.2.1
theorem d_MD_turn_38 : decode prog_12_method_81_code 38 = .ok (.invokestatic 210, 3) := F_MD_turn_0.2.2.2.2.2.2.2.2.2.2.2.2.2.2.2.2.2.2.2.2.2.2.2.1
theorem d_MD_turn_41 : decode prog_12_method_81_code 41 = .ok (.ldc2_w 329, 3) := F_MD_turn_0.2.2.2.2.2.2.2.2.2.2.2.2.2.2.2.2.2.2.2.2.2.2.2.2.1
theorem d_MD_turn_44 : decode prog_12_method_81_code 44 = .ok (.lcmp, 1) := F_MD_turn_0.2.2.2.2.2.2.2.2.2.2.2.2.2.2.2.2.2.2.2.2.2.2.2.2.2.1
theorem d_MD_turn_45 : decode prog_12_method_81_code 45 = .ok (.ifCond .le (5), 3) := F_MD_turn_0.2.2.2.2.2.2.2.2.2.2.2.2.2.2.2.2.2.2.2.2.2.2.2.2.2.2.1
theorem d_MD_turn_48 : decode prog_12_method_81_code 48 = .ok (.iconst 2, 1) := F_MD_turn_0.2.2.2.2.2.2.2.2.2.2.2.2.2.2.2.2.2.2.2.2.2.2.2.2.2.2.2.1
theorem d_MD_turn_49 : decode prog_12_method_81_code 49 = .ok (.ireturn, 1) := F_MD_turn_0.2.2.2.2.2.2.2.2.2.2.2.2.2.2.2.2.2.2.2.2.2.2.2.2.2.2.2.2.1
theorem d_MD_turn_50 : decode prog_12_method_81_code 50 = .ok (.iinc 2 (1), 3) := F_MD_turn_0.2.2.2.2.2.2.2.2.2.2.2.2.2.2.2.2.2.2.2.2.2.2.2.2.2.2.2.2.2.1
theorem d_MD_turn_53 : decode prog_12_method_81_code 53 = .ok (.goto (-27), 3) := F_MD_turn_0.2.2.2.2.2.2.2.2.2.2.2.2.2.2.2.2.2.2.2.2.2.2.2.2.2.2.2.2.2.2.1
theorem d_MD_turn_56 : decode prog_12_method_81_code 56 = .ok (.aload_n 0, 1) := F_MD_turn_0.2.2.2.2.2.2.2.2.2.2.2.2.2.2.2.2.2.2.2.2.2.2.2.2.2.2.2.2.2.2.2.1
theorem F_MD_turn_57 : Jvm.Free.DS.Facts prog_12_method_81_code 57 [(.getfield 44, 3), (.aload_n 0, 1), (.getfield 41, 3), (.invokestatic 230, 3), (.aload_n 0, 1), (.getfield 41, 3), (.iconst 0, 1), (.laload, 1), (.aload_n 0, 1), (.getfield 44, 3), (.iconst 0, 1), (.laload, 1), (.lmul, 1), (.aload_n 0, 1), (.getfield 41, 3), (.iconst 1, 1), (.laload, 1), (.aload_n 0, 1), (.getfield 44, 3), (.iconst 3, 1), (.laload, 1), (.lmul, 1), (.ladd, 1), (.aload_n 0, 1), (.getfield 41, 3), (.iconst 2, 1), (.laload, 1), (.aload_n 0, 1), (.getfield 44, 3), (.bipush (6), 2), (.laload, 1), (.lmul, 1)] := Jvm.Free.DS.facts 57 _ (by decide +kernel) (by decide +kernel)
theorem d_MD_turn_57 : decode prog_12_method_81_code 57 = .ok (.getfield 44, 3) := F_MD_turn_57.1
theorem d_MD_turn_60 : decode prog_12_method_81_code 60 = .ok (.aload_n 0, 1) := F_MD_turn_57.2.1
theorem d_MD_turn_61 : decode prog_12_method_81_code 61 = .ok (.getfield 41, 3) := F_MD_turn_57.2.2.1
theorem d_MD_turn_64 : decode prog_12_method_81_code 64 = .ok (.invokestatic 230, 3) := F_MD_turn_57.2.2.2.1
theorem d_MD_turn_67 : decode prog_12_method_81_code 67 = .ok (.aload_n 0, 1) := F_MD_turn_57.2.2.2.2.1
theorem d_MD_turn_68 : decode prog_12_method_81_code 68 = .ok (.getfield 41, 3) := F_MD_turn_57.2.2.2.2.2.1
theorem d_MD_turn_71 : decode prog_12_method_81_code 71 = .ok (.iconst 0, 1) := F_MD_turn_57.2.2.2.2.2.2.1
theorem d_MD_turn_72 : decode prog_12_method_81_code 72 = .ok (.laload, 1) := F_MD_turn_57.2.2.2.2.2.2.2.1
theorem d_MD_turn_73 : decode prog_12_method_81_code 73 = .ok (.aload_n 0, 1) := F_MD_turn_57.2.2.2.2.2.2.2.2.1
theorem d_MD_turn_74 : decode prog_12_method_81_code 74 = .ok (.getfield 44, 3) := F_MD_turn_57.2.2.2.2.2.2.2.2.2.1
theorem d_MD_turn_77 : decode prog_12_method_81_code 77 = .ok (.iconst 0, 1) := F_MD_turn_57.2.2.2.2.2.2.2.2.2.2.1
theorem d_MD_turn_78 : decode prog_12_method_81_code 78 = .ok (.laload, 1) := F_MD_turn_57.2.2.2.2.2.2.2.2.2.2.2.1
theorem d_MD_turn_79 : decode prog_12_method_81_code 79 = .ok (.lmul, 1) := F_MD_turn_57.2.2.2.2.2.2.2.2.2.2.2.2.1
theorem d_MD_turn_80 : decode prog_12_method_81_code 80 = .ok (.aload_n 0, 1) := F_MD_turn_57.2.2.2.2.2.2.2.2.2.2.2.2.2.1
theorem d_MD_turn_81 : decode prog_12_method_81_code 81 = .ok (.getfield 41, 3) := F_MD_turn_57.2.2.2.2.2.2.2.2.2.2.2.2.2.2.1
theorem d_MD_turn_84 : decode prog_12_method_81_code 84 = .ok (.iconst 1, 1) := F_MD_turn_57.2.2.2.2.2.2.2.2.2.2.2.2.2.2.2.1
theorem d_MD_turn_85 : decode prog_12_method_81_code 85 = .ok (.laload, 1) := F_MD_turn_57.2.2.2.2.2.2.2.2.2.2.2.2.2.2.2.2.1
theorem d_MD_turn_86 : decode prog_12_method_81_code 86 = .ok (.aload_n 0, 1) := F_MD_turn_57.2.2.2.2.2.2.2.2.2.2.2.2.2.2.2.2.2.1
theorem d_MD_turn_87 : decode prog_12_method_81_code 87 = .ok (.getfield 44, 3) := F_MD_turn_57.2.2.2.2.2.2.2.2.2.2.2.2.2.2.2.2.2.2.1
theorem d_MD_turn_90 : decode prog_12_method_81_code 90 = .ok (.iconst 3, 1) := F_MD_turn_57.2.2.2.2.2.2.2.2.2.2.2.2.2.2.2.2.2.2.2.1
theorem d_MD_turn_91 : decode prog_12_method_81_code 91 = .ok (.laload, 1) := F_MD_turn_57.2.2.2.2.2.2.2.2.2.2.2.2.2.2.2.2.2.2.2.2.1
theorem d_MD_turn_92 : decode prog_12_method_81_code 92 = .ok (.lmul, 1) := F_MD_turn_57.2.2.2.2.2.2.2.2.2.2.2.2.2.2.2.2.2.2.2.2.2.1
theorem d_MD_turn_93 : decode prog_12_method_81_code 93 = .ok (.ladd, 1) := F_MD_turn_57.2.2.2.2.2.2.2.2.2.2.2.2.2.2.2.2.2.2.2.2.2.2.1
theorem d_MD_turn_94 : decode prog_12_method_81_code 94 = .ok (.aload_n 0, 1) := F_MD_turn_57.2.2.2.2.2.2.2.2.2.2.2.2.2.2.2.2.2.2.2.2.2.2.2.1
theorem d_MD_turn_95 : decode prog_12_method_81_code 95 = .ok (.getfield 41, 3) := F_MD_turn_57.2.2.2.2.2.2.2.2.2.2.2.2.2.2.2.2.2.2.2.2.2.2.2.2.1
theorem d_MD_turn_98 : decode prog_12_method_81_code 98 = .ok (.iconst 2, 1) := F_MD_turn_57.2.2.2.2.2.2.2.2.2.2.2.2.2.2.2.2.2.2.2.2.2.2.2.2.2.1
theorem d_MD_turn_99 : decode prog_12_method_81_code 99 = .ok (.laload, 1) := F_MD_turn_57.2.2.2.2.2.2.2.2.2.2.2.2.2.2.2.2.2.2.2.2.2.2.2.2.2.2.1
theorem d_MD_turn_100 : decode prog_12_method_81_code 100 = .ok (.aload_n 0, 1) := F_MD_turn_57.2.2.2.2.2.2.2.2.2.2.2.2.2.2.2.2.2.2.2.2.2.2.2.2.2.2.2.1
theorem d_MD_turn_101 : decode prog_12_method_81_code 101 = .ok (.getfield 44, 3) := F_MD_turn_57.2.2.2.2.2.2.2.2.2.2.2.2.2.2.2.2.2.2.2.2.2.2.2.2.2.2.2.2.1
theorem d_MD_turn_104 : decode prog_12_method_81_code 104 = .ok (.bipush (6), 2) := F_MD_turn_57.2.2.2.2.2.2.2.2.2.2.2.2.2.2.2.2.2.2.2.2.2.2.2.2.2.2.2.2.2.1
theorem d_MD_turn_106 : decode prog_12_method_81_code 106 = .ok (.laload, 1) := F_MD_turn_57.2.2.2.2.2.2.2.2.2.2.2.2.2.2.2.2.2.2.2.2.2.2.2.2.2.2.2.2.2.2.1
theorem d_MD_turn_107 : decode prog_12_method_81_code 107 = .ok (.lmul, 1) := F_MD_turn_57.2.2.2.2.2.2.2.2.2.2.2.2.2.2.2.2.2.2.2.2.2.2.2.2.2.2.2.2.2.2.2.1
theorem F_MD_turn_108 : Jvm.Free.DS.Facts prog_12_method_81_code 108 [(.ladd, 1), (.lconst 0, 1), (.lcmp, 1), (.ifCond .le (7), 3), (.iconst 1, 1), (.goto (4), 3), (.iconst (-1), 1), (.ireturn, 1)] := Jvm.Free.DS.facts 108 _ (by decide +kernel) (by decide +kernel)
theorem d_MD_turn_108 : decode prog_12_method_81_code 108 = .ok (.ladd, 1) := F_MD_turn_108.1
theorem d_MD_turn_109 : decode prog_12_method_81_code 109 = .ok (.lconst 0, 1) := F_MD_turn_108.2.1
theorem d_MD_turn_110 : decode prog_12_method_81_code 110 = .ok (.lcmp, 1) := F_MD_turn_108.2.2.1
theorem d_MD_turn_111 : decode prog_12_method_81_code 111 = .ok (.ifCond .le (7), 3) := F_MD_turn_108.2.2.2.1
theorem d_MD_turn_114 : decode prog_12_method_81_code 114 = .ok (.iconst 1, 1) := F_MD_turn_108.2.2.2.2.1
theorem d_MD_turn_115 : decode prog_12_method_81_code 115 = .ok (.goto (4), 3) := F_MD_turn_108.2.2.2.2.2.1
theorem d_MD_turn_118 : decode prog_12_method_81_code 118 = .ok (.iconst (-1), 1) := F_MD_turn_108.2.2.2.2.2.2.1
theorem d_MD_turn_119 : decode prog_12_method_81_code 119 = .ok (.ireturn, 1) := F_MD_turn_108.2.2.2.2.2.2.2.1
theorem F_MD_order_0 : Jvm.Free.DS.Facts prog_12_method_82_code 0 [(.aload_n 0, 1), (.iconst 0, 1), (.putfield 74, 3), (.aload_n 0, 1), (.iload_n 1, 1), (.invokevirtual 241, 3), (.ifCond .ne (5), 3), (.iconst (-1), 1), (.ireturn, 1), (.aload_n 0, 1), (.invokevirtual 283, 3), (.iconst 1, 1), (.istore_n 2, 1), (.iload_n 2, 1), (.bipush (12), 2), (.if_icmp .gt (29), 3), (.aload_n 0, 1), (.iload_n 1, 1), (.invokevirtual 286, 3), (.ifCond .ne (6), 3), (.bipush (-2), 2), (.ireturn, 1), (.aload_n 0, 1), (.invokevirtual 326, 3), (.ifCond .eq (5), 3), (.iload_n 2, 1), (.ireturn, 1), (.iinc 2 (1), 3), (.goto (-29), 3), (.bipush (-2), 2), (.ireturn, 1)] := Jvm.Free.DS.facts 0 _ (by decide +kernel) (by decide +kernel)
theorem d_MD_order_0 : decode prog_12_method_82_code 0 = .ok (.aload_n 0, 1) := F_MD_order_0.1
theorem d_MD_order_1 : decode prog_12_method_82_code 1 = .ok (.iconst 0, 1) := F_MD_order_0.2.1
theorem d_MD_order_2 : decode prog_12_method_82_code 2 = .ok (.putfield 74, 3) := F_MD_order_0.2.2.1
theorem d_MD_order_5 : decode prog_12_method_82_code 5 = .ok (.aload_n 0, 1) := F_MD_order_0.2.2.2.1
theorem d_MD_order_6 : decode prog_12_method_82_code 6 = .ok (.iload_n 1, 1) := F_MD_order_0.2.2.2.2.1
theorem d_MD_order_7 : decode prog_12_method_82_code 7 = .ok (.invokevirtual 241, 3) := F_MD_order_0.2.2.2.2.2.1
theorem d_MD_order_10 : decode prog_12_method_82_code 10 = .ok (.ifCond .ne (5), 3) := F_MD_order_0.2.2.2.2.2.2.1
theorem d_MD_order_13 : decode prog_12_method_82_code 13 = .ok (.iconst (-1), 1) := F_MD_order_0.2.2.2.2.2.2.2.1
theorem d_MD_order_14 : decode prog_12_method_82_code 14 = .ok (.ireturn, 1) := F_MD_order_0.2.2.2.2.2.2.2.2.1
theorem d_MD_order_15 : decode prog_12_method_82_code 15 = .ok (.aload_n 0, 1) := F_MD_order_0.2.2.2.2.2.2.2.2.2.1
theorem d_MD_order_16 : decode prog_12_method_82_code 16 = .ok (.invokevirtual 283, 3) := F_MD_order_0.2.2.2.2.2.2.2.2.2.2.1
theorem d_MD_order_19 : decode prog_12_method_82_code 19 = .ok (.iconst 1, 1) := F_MD_order_0.2.2.2.2.2.2.2.2.2.2.2.1
theorem d_MD_order_20 : decode prog_12_method_82_code 20 = .ok (.istore_n 2, 1) := F_MD_order_0.2.2.2.2.2.2.2.2.2.2.2.2.1
theorem d_MD_order_21 : decode prog_12_method_82_code 21 = .ok (.iload_n 2, 1) := F_MD_order_0.2.2.2.2.2.2.2.2.2.2.2.2.2.1
theorem d_MD_order_22 : decode prog_12_method_82_code 22 = .ok (.bipush (12), 2) := F_MD_order_0.2.2.2.2.2.2.2.2.2.2.2.2.2.2.1
theorem d_MD_order_24 : decode prog_12_method_82_code 24 = .ok (.if_icmp .gt (29), 3) := F_MD_order_0.2.2.2.2.2.2.2.2.2.2.2.2.2.2.2.1
theorem d_MD_order_27 : decode prog_12_method_82_code 27 = .ok (.aload_n 0, 1) := F_MD_order_0.2.2.2.2.2.2.2.2.2.2.2.2.2.2.2.2.1
theorem d_MD_order_28 : decode prog_12_method_82_code 28 = .ok (.iload_n 1, 1) := F_MD_order_0.2.2.2.2.2.2.2.2.2.2.2.2.2.2.2.2.2.1
theorem d_MD_order_29 : decode prog_12_method_82_code 29 = .ok (.invokevirtual 286, 3) := F_MD_order_0.2.2.2.2.2.2.2.2.2.2.2.2.2.2.2.2.2.2.1
theorem d_MD_order_32 : decode prog_12_method_82_code 32 = .ok (.ifCond .ne (6), 3) := F_MD_order_0.2.2.2.2.2.2.2.2.2.2.2.2.2.2.2.2.2.2.2.1
theorem d_MD_order_35 : decode prog_12_method_82_code 35 = .ok (.bipush (-2), 2) := F_MD_order_0.2.2.2.2.2.2.2.2.2.2.2.2.2.2.2.2.2.2.2.2.1
theorem d_MD_order_37 : decode prog_12_method_82_code 37 = .ok (.ireturn, 1) := F_MD_order_0.2.2.2.2.2.2.2.2.2.2.2.2.2.2.2.2.2.2.2.2.2.1
theorem d_MD_order_38 : decode prog_12_method_82_code 38 = .ok (.aload_n 0, 1) := F_MD_order_0.2.2.2.2.2.2.2.2.2.2.2.2.2.2.2.2.2.2.2.2.2.2.1
theorem d_MD_order_39 : decode prog_12_method_82_code 39 = .ok (.invokevirtual 326, 3) := F_MD_order_0.2.2.2.2.2.2.2.2.2.2.2.2.2.2.2.2.2.2.2.2.2.2.2.1
theorem d_MD_order_42 : decode prog_12_method_82_code 42 = .ok (.ifCond .eq (5), 3) := F_MD_order_0.2.2.2.2.2.2.2.2.2.2.2.2.2.2.2.2.2.2.2.2.2.2.2.2.1
theorem d_MD_order_45 : decode prog_12_method_82_code 45 = .ok (.iload_n 2, 1) := F_MD_order_0.2.2.2.2.2.2.2.2.2.2.2.2.2.2.2.2.2.2.2.2.2.2.2.2.2.1
theorem d_MD_order_46 : decode prog_12_method_82_code 46 = .ok (.ireturn, 1) := F_MD_order_0.2.2.2.2.2.2.2.2.2.2.2.2.2.2.2.2.2.2.2.2.2.2.2.2.2.2.1
theorem d_MD_order_47 : decode prog_12_method_82_code 47 = .ok (.iinc 2 (1), 3) := F_MD_order_0.2.2.2.2.2.2.2.2.2.2.2.2.2.2.2.2.2.2.2.2.2.2.2.2.2.2.2.1
theorem d_MD_order_50 : decode prog_12_method_82_code 50 = .ok (.goto (-29), 3) := F_MD_order_0.2.2.2.2.2.2.2.2.2.2.2.2.2.2.2.2.2.2.2.2.2.2.2.2.2.2.2.2.1
theorem d_MD_order_53 : decode prog_12_method_82_code 53 = .ok (.bipush (-2), 2) := F_MD_order_0.2.2.2.2.2.2.2.2.2.2.2.2.2.2.2.2.2.2.2.2.2.2.2.2.2.2.2.2.2.1
theorem d_MD_order_55 : decode prog_12_method_82_code 55 = .ok (.ireturn, 1) := F_MD_order_0.2.2.2.2.2.2.2.2.2.2.2.2.2.2.2.2.2.2.2.2.2.2.2.2.2.2.2.2.2.2.1
theorem F_MD_same_0 : Jvm.Free.DS.Facts prog_12_method_83_code 0 [(.aload_n 0, 1), (.iconst 0, 1), (.putfield 74, 3), (.aload_n 0, 1), (.iload_n 1, 1), (.invokevirtual 241, 3), (.ifCond .eq (11), 3), (.aload_n 0, 1), (.iload_n 2, 1), (.invokevirtual 241, 3), (.ifCond .ne (5), 3), (.iconst (-1), 1), (.ireturn, 1), (.aload_n 0, 1), (.aload_n 0, 1), (.getfield 41, 3), (.iload_n 1, 1), (.invokevirtual 274, 3), (.aload_n 0, 1), (.iload_n 2, 1), (.invokevirtual 331, 3), (.ifCond .eq (7), 3), (.iconst 1, 1), (.goto (4), 3), (.iconst 0, 1), (.ireturn, 1)] := Jvm.Free.DS.facts 0 _ (by decide +kernel) (by decide +kernel)
theorem d_MD_same_0 : decode prog_12_method_83_code 0 = .ok (.aload_n 0, 1) := F_MD_same_0.1
theorem d_MD_same_1 : decode prog_12_method_83_code 1 = .ok (.iconst 0, 1) := F_MD_same_0.2.1
theorem d_MD_same_2 : decode prog_12_method_83_code 2 = .ok (.putfield 74, 3) := F_MD_same_0.2.2.1
theorem d_MD_same_5 : decode prog_12_method_83_code 5 = .ok (.aload_n 0, 1) := F_MD_same_0.2.2.2.1
theorem d_MD_same_6 : decode prog_12_method_83_code 6 = .ok (.iload_n 1, 1) := F_MD_same_0.2.2.2.2.1
theorem d_MD_same_7 : decode prog_12_method_83_code 7 = .ok (.invokevirtual 241, 3) := F_MD_same_0.2.2.2.2.2.1
theorem d_MD_same_10 : decode prog_12_method_83_code 10 = .ok (.ifCond .eq (11), 3) := F_MD_same_0.2.2.2.2.2.2.1
theorem d_MD_same_13 : decode prog_12_method_83_code 13 = .ok (.aload_n 0, 1) := F_MD_same_0.2.2.2.2.2.2.2.1
theorem d_MD_same_14 : decode prog_12_method_83_code 14 = .ok (.iload_n 2, 1) := F_MD_same_0.2.2.2.2.2.2.2.2.1
theorem d_MD_same_15 : decode prog_12_method_83_code 15 = .ok (.invokevirtual 241, 3) := F_MD_same_0.2.2.2.2.2.2.2.2.2.1
theorem d_MD_same_18 : decode prog_12_method_83_code 18 = .ok (.ifCond .ne (5), 3) := F_MD_same_0.2.2.2.2.2.2.2.2.2.2.1
theorem d_MD_same_21 : decode prog_12_method_83_code 21 = .ok (.iconst (-1), 1) := F_MD_same_0.2.2.2.2.2.2.2.2.2.2.2.1
theorem d_MD_same_22 : decode prog_12_method_83_code 22 = .ok (.ireturn, 1) := F_MD_same_0.2.2.2.2.2.2.2.2.2.2.2.2.1
theorem d_MD_same_23 : decode prog_12_method_83_code 23 = .ok (.aload_n 0, 1) := F_MD_same_0.2.2.2.2.2.2.2.2.2.2.2.2.2.1
theorem d_MD_same_24 : decode prog_12_method_83_code 24 = .ok (.aload_n 0, 1) := F_MD_same_0.2.2.2.2.2.2.2.2.2.2.2.2.2.2.1
theorem d_MD_same_25 : decode prog_12_method_83_code 25 = .ok (.getfield 41, 3) := F_MD_same_0.2.2.2.2.2.2.2.2.2.2.2.2.2.2.2.1
theorem d_MD_same_28 : decode prog_12_method_83_code 28 = .ok (.iload_n 1, 1) := F_MD_same_0.2.2.2.2.2.2.2.2.2.2.2.2.2.2.2.2.1
theorem d_MD_same_29 : decode prog_12_method_83_code 29 = .ok (.invokevirtual 274, 3) := F_MD_same_0.2.2.2.2.2.2.2.2.2.2.2.2.2.2.2.2.2.1
theorem d_MD_same_32 : decode prog_12_method_83_code 32 = .ok (.aload_n 0, 1) := F_MD_same_0.2.2.2.2.2.2.2.2.2.2.2.2.2.2.2.2.2.2.1
theorem d_MD_same_33 : decode prog_12_method_83_code 33 = .ok (.iload_n 2, 1) := F_MD_same_0.2.2.2.2.2.2.2.2.2.2.2.2.2.2.2.2.2.2.2.1
theorem d_MD_same_34 : decode prog_12_method_83_code 34 = .ok (.invokevirtual 331, 3) := F_MD_same_0.2.2.2.2.2.2.2.2.2.2.2.2.2.2.2.2.2.2.2.2.1
theorem d_MD_same_37 : decode prog_12_method_83_code 37 = .ok (.ifCond .eq (7), 3) := F_MD_same_0.2.2.2.2.2.2.2.2.2.2.2.2.2.2.2.2.2.2.2.2.2.1
theorem d_MD_same_40 : decode prog_12_method_83_code 40 = .ok (.iconst 1, 1) := F_MD_same_0.2.2.2.2.2.2.2.2.2.2.2.2.2.2.2.2.2.2.2.2.2.2.1
theorem d_MD_same_41 : decode prog_12_method_83_code 41 = .ok (.goto (4), 3) := F_MD_same_0.2.2.2.2.2.2.2.2.2.2.2.2.2.2.2.2.2.2.2.2.2.2.2.1
theorem d_MD_same_44 : decode prog_12_method_83_code 44 = .ok (.iconst 0, 1) := F_MD_same_0.2.2.2.2.2.2.2.2.2.2.2.2.2.2.2.2.2.2.2.2.2.2.2.2.1
theorem d_MD_same_45 : decode prog_12_method_83_code 45 = .ok (.ireturn, 1) := F_MD_same_0.2.2.2.2.2.2.2.2.2.2.2.2.2.2.2.2.2.2.2.2.2.2.2.2.2.1
theorem F_MD_isLike_0 : Jvm.Free.DS.Facts prog_12_method_84_code 0 [(.iconst 0, 1), (.istore_n 2, 1), (.iload_n 2, 1), (.bipush (9), 2), (.if_icmp .ge (32), 3), (.aload_n 0, 1), (.getfield 41, 3), (.iload_n 2, 1), (.laload, 1), (.aload_n 0, 1), (.getfield 21, 3), (.bipush (9), 2), (.iload_n 1, 1), (.imul, 1), (.iload_n 2, 1), (.iadd, 1), (.laload, 1), (.lcmp, 1), (.ifCond .eq (5), 3), (.iconst 0, 1), (.ireturn, 1), (.iinc 2 (1), 3), (.goto (-32), 3), (.iconst 1, 1), (.ireturn, 1)] := Jvm.Free.DS.facts 0 _ (by decide +kernel) (by decide +kernel)
theorem d_MD_isLike_0 : decode prog_12_method_84_code 0 = .ok (.iconst 0, 1) := F_MD_isLike_0.1
theorem d_MD_isLike_1 : decode prog_12_method_84_code 1 = .ok (.istore_n 2, 1) := F_MD_isLike_0.2.1
theorem d_MD_isLike_2 : decode prog_12_method_84_code 2 = .ok (.iload_n 2, 1) := F_MD_isLike_0.2.2.1
theorem d_MD_isLike_3 : decode prog_12_method_84_code 3 = .ok (.bipush (9), 2) := F_MD_isLike_0.2.2.2.1
theorem d_MD_isLike_5 : decode prog_12_method_84_code 5 = .ok (.if_icmp .ge (32), 3) := F_MD_isLike_0.2.2.2.2.1
theorem d_MD_isLike_8 : decode prog_12_method_84_code 8 = .ok (.aload_n 0, 1) := F_MD_isLike_0.2.2.2.2.2.1
theorem d_MD_isLike_9 : decode prog_12_method_84_code 9 = .ok (.getfield 41, 3) := F_MD_isLike_0.2.2.2.2.2.2.1
theorem d_MD_isLike_12 : decode prog_12_method_84_code 12 = .ok (.iload_n 2, 1) := F_MD_isLike_0.2.2.2.2.2.2.2.1
theorem d_MD_isLike_13 : decode prog_12_method_84_code 13 = .ok (.laload, 1) := F_MD_isLike_0.2.2.2.2.2.2.2.2.1
theorem d_MD_isLike_14 : decode prog_12_method_84_code 14 = .ok (.aload_n 0, 1) := F_MD_isLike_0.2.2.2.2.2.2.2.2.2.1
theorem d_MD_isLike_15 : decode prog_12_method_84_code 15 = .ok (.getfield 21, 3) := F_MD_isLike_0.2.2.2.2.2.2.2.2.2.2.1
theorem d_MD_isLike_18 : decode prog_12_method_84_code 18 = .ok (.bipush (9), 2) := F_MD_isLike_0.2.2.2.2.2.2.2.2.2.2.2.1
theorem d_MD_isLike_20 : decode prog_12_method_84_code 20 = .ok (.iload_n 1, 1) := F_MD_isLike_0.2.2.2.2.2.2.2.2.2.2.2.2.1
theorem d_MD_isLike_21 : decode prog_12_method_84_code 21 = .ok (.imul, 1) := F_MD_isLike_0.2.2.2.2.2.2.2.2.2.2.2.2.2.1
theorem d_MD_isLike_22 : decode prog_12_method_84_code 22 = .ok (.iload_n 2, 1) := F_MD_isLike_0.2.2.2.2.2.2.2.2.2.2.2.2.2.2.1
theorem d_MD_isLike_23 : decode prog_12_method_84_code 23 = .ok (.iadd, 1) := F_MD_isLike_0.2.2.2.2.2.2.2.2.2.2.2.2.2.2.2.1
theorem d_MD_isLike_24 : decode prog_12_method_84_code 24 = .ok (.laload, 1) := F_MD_isLike_0.2.2.2.2.2.2.2.2.2.2.2.2.2.2.2.2.1
theorem d_MD_isLike_25 : decode prog_12_method_84_code 25 = .ok (.lcmp, 1) := F_MD_isLike_0.2.2.2.2.2.2.2.2.2.2.2.2.2.2.2.2.2.1
theorem d_MD_isLike_26 : decode prog_12_method_84_code 26 = .ok (.ifCond .eq (5), 3) := F_MD_isLike_0.2.2.2.2.2.2.2.2.2.2.2.2.2.2.2.2.2.2.1
theorem d_MD_isLike_29 : decode prog_12_method_84_code 29 = .ok (.iconst 0, 1) := F_MD_isLike_0.2.2.2.2.2.2.2.2.2.2.2.2.2.2.2.2.2.2.2.1
theorem d_MD_isLike_30 : decode prog_12_method_84_code 30 = .ok (.ireturn, 1) := F_MD_isLike_0.2.2.2.2.2.2.2.2.2.2.2.2.2.2.2.2.2.2.2.2.1
theorem d_MD_isLike_31 : decode prog_12_method_84_code 31 = .ok (.iinc 2 (1), 3) := F_MD_isLike_0.2.2.2.2.2.2.2.2.2.2.2.2.2.2.2.2.2.2.2.2.2.1
theorem d_MD_isLike_34 : decode prog_12_method_84_code 34 = .ok (.goto (-32), 3) := F_MD_isLike_0.2.2.2.2.2.2.2.2.2.2.2.2.2.2.2.2.2.2.2.2.2.2.1
theorem d_MD_isLike_37 : decode prog_12_method_84_code 37 = .ok (.iconst 1, 1) := F_MD_isLike_0.2.2.2.2.2.2.2.2.2.2.2.2.2.2.2.2.2.2.2.2.2.2.2.1
theorem d_MD_isLike_38 : decode prog_12_method_84_code 38 = .ok (.ireturn, 1) := F_MD_isLike_0.2.2.2.2.2.2.2.2.2.2.2.2.2.2.2.2.2.2.2.2.2.2.2.2.1
theorem F_MD_commute_0 : Jvm.Free.DS.Facts prog_12_method_85_code 0 [(.aload_n 0, 1), (.iconst 0, 1), (.putfield 74, 3), (.aload_n 0, 1), (.iload_n 1, 1), (.invokevirtual 241, 3), (.ifCond .eq (11), 3), (.aload_n 0, 1), (.iload_n 2, 1), (.invokevirtual 241, 3), (.ifCond .ne (5), 3), (.iconst (-1), 1), (.ireturn, 1), (.aload_n 0, 1), (.iload_n 1, 1), (.iload_n 2, 1), (.invokevirtual 277, 3), (.iconst 0, 1), (.istore_n 3, 1), (.iload_n 3, 1), (.bipush (9), 2), (.if_icmp .ge (21), 3), (.aload_n 0, 1), (.getfield 59, 3), (.iload_n 3, 1), (.aload_n 0, 1), (.getfield 41, 3), (.iload_n 3, 1), (.laload, 1), (.lastore, 1), (.iinc 3 (1), 3), (.goto (-21), 3)] := Jvm.Free.DS.facts 0 _ (by decide +kernel) (by decide +kernel)
theorem d_MD_commute_0 : decode prog_12_method_85_code 0 = .ok (.aload_n 0, 1) := F_MD_commute_0.1
theorem d_MD_commute_1 : decode prog_12_method_85_code 1 = .ok (.iconst 0, 1) := F_MD_commute_0.2.1
theorem d_MD_commute_2 : decode prog_12_method_85_code 2 = .ok (.putfield 74, 3) := F_MD_commute_0.2.2.1
theorem d_MD_commute_5 : decode prog_12_method_85_code 5 = .ok (.aload_n 0, 1) := F_MD_commute_0.2.2.2.1
theorem d_MD_commute_6 : decode prog_12_method_85_code 6 = .ok (.iload_n 1, 1) := F_MD_commute_0.2.2.2.2.1
theorem d_MD_commute_7 : decode prog_12_method_85_code 7 = .ok (.invokevirtual 241, 3) := F_MD_commute_0.2.2.2.2.2.1
theorem d_MD_commute_10 : decode prog_12_method_85_code 10 = .ok (.ifCond .eq (11), 3) := F_MD_commute_0.2.2.2.2.2.2.1
theorem d_MD_commute_13 : decode prog_12_method_85_code 13 = .ok (.aload_n 0, 1) := F_MD_commute_0.2.2.2.2.2.2.2.1
theorem d_MD_commute_14 : decode prog_12_method_85_code 14 = .ok (.iload_n 2, 1) := F_MD_commute_0.2.2.2.2.2.2.2.2.1
theorem d_MD_commute_15 : decode prog_12_method_85_code 15 = .ok (.invokevirtual 241, 3) := F_MD_commute_0.2.2.2.2.2.2.2.2.2.1
theorem d_MD_commute_18 : decode prog_12_method_85_code 18 = .ok (.ifCond .ne (5), 3) := F_MD_commute_0.2.2.2.2.2.2.2.2.2.2.1
theorem d_MD_commute_21 : decode prog_12_method_85_code 21 = .ok (.iconst (-1), 1) := F_MD_commute_0.2.2.2.2.2.2.2.2.2.2.2.1
theorem d_MD_commute_22 : decode prog_12_method_85_code 22 = .ok (.ireturn, 1) := F_MD_commute_0.2.2.2.2.2.2.2.2.2.2.2.2.1
theorem d_MD_commute_23 : decode prog_12_method_85_code 23 = .ok (.aload_n 0, 1) := F_MD_commute_0.2.2.2.2.2.2.2.2.2.2.2.2.2.1
theorem d_MD_commute_24 : decode prog_12_method_85_code 24 = .ok (.iload_n 1, 1) := F_MD_commute_0.2.2.2.2.2.2.2.2.2.2.2.2.2.2.1
theorem d_MD_commute_25 : decode prog_12_method_85_code 25 = .ok (.iload_n 2, 1) := F_MD_commute_0.2.2.2.2.2.2.2.2.2.2.2.2.2.2.2.1
theorem d_MD_commute_26 : decode prog_12_method_85_code 26 = .ok (.invokevirtual 277, 3) := F_MD_commute_0.2.2.2.2.2.2.2.2.2.2.2.2.2.2.2.2.1
theorem d_MD_commute_29 : decode prog_12_method_85_code 29 = .ok (.iconst 0, 1) := F_MD_commute_0.2.2.2.2.2.2.2.2.2.2.2.2.2.2.2.2.2.1
theorem d_MD_commute_30 : decode prog_12_method_85_code 30 = .ok (.istore_n 3, 1) := F_MD_commute_0.2.2.2.2.2.2.2.2.2.2.2.2.2.2.2.2.2.2.1
theorem d_MD_commute_31 : decode prog_12_method_85_code 31 = .ok (.iload_n 3, 1) := F_MD_commute_0.2.2.2.2.2.2.2.2.2.2.2.2.2.2.2.2.2.2.2.1
theorem d_MD_commute_32 : decode prog_12_method_85_code 32 = .ok (.bipush (9), 2) := F_MD_commute_0.2.2.2.2.2.2.2.2.2.2.2.2.2.2.2.2.2.2.2.2.1
theorem d_MD_commute_34 : decode prog_12_method_85_code 34 = .ok (.if_icmp .ge (21), 3) := F_MD_commute_0.2.2.2.2.2.2.2.2.2.2.2.2.2.2.2.2.2.2.2.2.2.1
theorem d_MD_commute_37 : decode prog_12_method_85_code 37 = .ok (.aload_n 0, 1) := F_MD_commute_0.2.2.2.2.2.2.2.2.2.2.2.2.2.2.2.2.2.2.2.2.2.2.1
theorem d_MD_commute_38 : decode prog_12_method_85_code 38 = .ok (.getfield 59, 3) := F_MD_commute_0.2.2.2.2.2.2.2.2.2.2.2.2.2.2.2.2.2.2.2.2.2.2.2.1
theorem d_MD_commute_41 : decode prog_12_method_85_code 41 = .ok (.iload_n 3, 1) := F_MD_commute_0.2.2.2.2.2.2.2.2.2.2.2.2.2.2.2.2.2.2.2.2.2.2.2.2.1
theorem d_MD_commute_42 : decode prog_12_method_85_code 42 = .ok (.aload_n 0, 1) := F_MD_commute_0.2.2.2.2.2.2.2.2.2.2.2.2.2.2.2.2.2.2.2.2.2.2.2.2.2.1
theorem d_MD_commute_43 : decode prog_12_method_85_code 43 = .ok (.getfield 41, 3) := F_MD_commute_0.2.2.2.2.2.2.2.2.2.2.2.2.2.2.2.2.2.2.2.2.2.2.2.2.2.2.1
theorem d_MD_commute_46 : decode prog_12_method_85_code 46 = .ok (.iload_n 3, 1) := F_MD_commute_0.2.2.2.2.2.2.2.2.2.2.2.2.2.2.2.2.2.2.2.2.2.2.2.2.2.2.2.1
theorem d_MD_commute_47 : decode prog_12_method_85_code 47 = .ok (.laload, 1) := F_MD_commute_0.2.2.2.2.2.2.2.2.2.2.2.2.2.2.2.2.2.2.2.2.2.2.2.2.2.2.2.2.1
theorem d_MD_commute_48 : decode prog_12_method_85_code 48 = .ok (.lastore, 1) := F_MD_commute_0.2.2.2.2.2.2.2.2.2.2.2.2.2.2.2.2.2.2.2.2.2.2.2.2.2.2.2.2.2.1
theorem d_MD_commute_49 : decode prog_12_method_85_code 49 = .ok (.iinc 3 (1), 3) := F_MD_commute_0.2.2.2.2.2.2.2.2.2.2.2.2.2.2.2.2.2.2.2.2.2.2.2.2.2.2.2.2.2.2.1
theorem d_MD_commute_52 : decode prog_12_method_85_code 52 = .ok (.goto (-21), 3) := F_MD_commute_0.2.2.2.2.2.2.2.2.2.2.2.2.2.2.2.2.2.2.2.2.2.2.2.2.2.2.2.2.2.2.2.1
theorem F_MD_commute_55 : Jvm.Free.DS.Facts prog_12_method_85_code 55 [(.aload_n 0, 1), (.iload_n 2, 1), (.iload_n 1, 1), (.invokevirtual 277, 3), (.iconst 1, 1), (.istore_n 3, 1), (.iconst 0, 1), (.istore 4, 2), (.iload 4, 2), (.bipush (9), 2), (.if_icmp .ge (37), 3), (.iload_n 3, 1), (.ifCond .eq (25), 3), (.aload_n 0, 1), (.getfield 59, 3), (.iload 4, 2), (.laload, 1), (.aload_n 0, 1), (.getfield 41, 3), (.iload 4, 2), (.laload, 1), (.lcmp, 1), (.ifCond .ne (7), 3), (.iconst 1, 1), (.goto (4), 3), (.iconst 0, 1), (.istore_n 3, 1), (.iinc 4 (1), 3), (.goto (-38), 3), (.iload_n 3, 1), (.ifCond .eq (7), 3), (.iconst 1, 1)] := Jvm.Free.DS.facts 55 _ (by decide +kernel) (by decide +kernel)
theorem d_MD_commute_55 : decode prog_12_method_85_code 55 = .ok (.aload_n 0, 1) := F_MD_commute_55.1
theorem d_MD_commute_56 : decode prog_12_method_85_code 56 = .ok (.iload_n 2, 1) := F_MD_commute_55.2.1
theorem d_MD_commute_57 : decode prog_12_method_85_code 57 = .ok (.iload_n 1, 1) := F_MD_commute_55.2.2.1
theorem d_MD_commute_58 : decode prog_12_method_85_code 58 = .ok (.invokevirtual 277, 3) := F_MD_commute_55.2.2.2.1
theorem d_MD_commute_61 : decode prog_12_method_85_code 61 = .ok (.iconst 1, 1) := F_MD_commute_55.2.2.2.2.1
theorem d_MD_commute_62 : decode prog_12_method_85_code 62 = .ok (.istore_n 3, 1) := F_MD_commute_55.2.2.2.2.2.1
theorem d_MD_commute_63 : decode prog_12_method_85_code 63 = .ok (.iconst 0, 1) := F_MD_commute_55.2.2.2.2.2.2.1
theorem d_MD_commute_64 : decode prog_12_method_85_code 64 = .ok (.istore 4, 2) := F_MD_commute_55.2.2.2.2.2.2.2.1
theorem d_MD_commute_66 : decode prog_12_method_85_code 66 = .ok (.iload 4, 2) := F_MD_commute_55.2.2.2.2.2.2.2.2.1
theorem d_MD_commute_68 : decode prog_12_method_85_code 68 = .ok (.bipush (9), 2) := F_MD_commute_55.2.2.2.2.2.2.2.2.2.1
theorem d_MD_commute_70 : decode prog_12_method_85_code 70 = .ok (.if_icmp .ge (37), 3) := F_MD_commute_55.2.2.2.2.2.2.2.2.2.2.1
theorem d_MD_commute_73 : decode prog_12_method_85_code 73 = .ok (.iload_n 3, 1) := F_MD_commute_55.2.2.2.2.2.2.2.2.2.2.2.1
theorem d_MD_commute_74 : decode prog_12_method_85_code 74 = .ok (.ifCond .eq (25), 3) := F_MD_commute_55.2.2.2.2.2.2.2.2.2.2.2.2.1
theorem d_MD_commute_77 : decode prog_12_method_85_code 77 = .ok (.aload_n 0, 1) := F_MD_commute_55.2.2.2.2.2.2.2.2.2.2.2.2.2.1
theorem d_MD_commute_78 : decode prog_12_method_85_code 78 = .ok (.getfield 59, 3) := F_MD_commute_55.2.2.2.2.2.2.2.2.2.2.2.2.2.2.1
theorem d_MD_commute_81 : decode prog_12_method_85_code 81 = .ok (.iload 4, 2) := F_MD_commute_55.2.2.2.2.2.2.2.2.2.2.2.2.2.2.2.1
theorem d_MD_commute_83 : decode prog_12_method_85_code 83 = .ok (.laload, 1) := F_MD_commute_55.2.2.2.2.2.2.2.2.2.2.2.2.2.2.2.2.1
theorem d_MD_commute_84 : decode prog_12_method_85_code 84 = .ok (.aload_n 0, 1) := F_MD_commute_55.2.2.2.2.2.2.2.2.2.2.2.2.2.2.2.2.2.1
theorem d_MD_commute_85 : decode prog_12_method_85_code 85 = .ok (.getfield 41, 3) := F_MD_commute_55.2.2.2.2.2.2.2.2.2.2.2.2.2.2.2.2.2.2.1
theorem d_MD_commute_88 : decode prog_12_method_85_code 88 = .ok (.iload 4, 2) := F_MD_commute_55.2.2.2.2.2.2.2.2.2.2.2.2.2.2.2.2.2.2.2.1
theorem d_MD_commute_90 : decode prog_12_method_85_code 90 = .ok (.laload, 1) := F_MD_commute_55.2.2.2.2.2.2.2.2.2.2.2.2.2.2.2.2.2.2.2.2.1
theorem d_MD_commute_91 : decode prog_12_method_85_code 91 = .ok (.lcmp, 1) := F_MD_commute_55.2.2.2.2.2.2.2.2.2.2.2.2.2.2.2.2.2.2.2.2.2.1
theorem d_MD_commute_92 : decode prog_12_method_85_code 92 = .ok (.ifCond .ne (7), 3) := F_MD_commute_55.2.2.2.2.2.2.2.2.2.2.2.2.2.2.2.2.2.2.2.2.2.2.1
theorem d_MD_commute_95 : decode prog_12_method_85_code 95 = .ok (.iconst 1, 1) := F_MD_commute_55.2.2.2.2.2.2.2.2.2.2.2.2.2.2.2.2.2.2.2.2.2.2.2.1
theorem d_MD_commute_96 : decode prog_12_method_85_code 96 = .ok (.goto (4), 3) := F_MD_commute_55.2.2.2.2.2.2.2.2.2.2.2.2.2.2.2.2.2.2.2.2.2.2.2.2.1
theorem d_MD_commute_99 : decode prog_12_method_85_code 99 = .ok (.iconst 0, 1) := F_MD_commute_55.2.2.2.2.2.2.2.2.2.2.2.2.2.2.2.2.2.2.2.2.2.2.2.2.2.1
theorem d_MD_commute_100 : decode prog_12_method_85_code 100 = .ok (.istore_n 3, 1) := F_MD_commute_55.2.2.2.2.2.2.2.2.2.2.2.2.2.2.2.2.2.2.2.2.2.2.2.2.2.2.1
theorem d_MD_commute_101 : decode prog_12_method_85_code 101 = .ok (.iinc 4 (1), 3) := F_MD_commute_55.2.2.2.2.2.2.2.2.2.2.2.2.2.2.2.2.2.2.2.2.2.2.2.2.2.2.2.1
theorem d_MD_commute_104 : decode prog_12_method_85_code 104 = .ok (.goto (-38), 3) := F_MD_commute_55.2.2.2.2.2.2.2.2.2.2.2.2.2.2.2.2.2.2.2.2.2.2.2.2.2.2.2.2.1
theorem d_MD_commute_107 : decode prog_12_method_85_code 107 = .ok (.iload_n 3, 1) := F_MD_commute_55.2.2.2.2.2.2.2.2.2.2.2.2.2.2.2.2.2.2.2.2.2.2.2.2.2.2.2.2.2.1
theorem d_MD_commute_108 : decode prog_12_method_85_code 108 = .ok (.ifCond .eq (7), 3) := F_MD_commute_55.2.2.2.2.2.2.2.2.2.2.2.2.2.2.2.2.2.2.2.2.2.2.2.2.2.2.2.2.2.2.1
theorem d_MD_commute_111 : decode prog_12_method_85_code 111 = .ok (.iconst 1, 1) := F_MD_commute_55.2.2.2.2.2.2.2.2.2.2.2.2.2.2.2.2.2.2.2.2.2.2.2.2.2.2.2.2.2.2.2.1
theorem F_MD_commute_112 : Jvm.Free.DS.Facts prog_12_method_85_code 112 [(.goto (4), 3), (.iconst 0, 1), (.ireturn, 1)] := Jvm.Free.DS.facts 112 _ (by decide +kernel) (by decide +kernel)
theorem d_MD_commute_112 : decode prog_12_method_85_code 112 = .ok (.goto (4), 3) := F_MD_commute_112.1
theorem d_MD_commute_115 : decode prog_12_method_85_code 115 = .ok (.iconst 0, 1) := F_MD_commute_112.2.1
theorem d_MD_commute_116 : decode prog_12_method_85_code 116 = .ok (.ireturn, 1) := F_MD_commute_112.2.2.1
theorem F_MD_undoes_0 : Jvm.Free.DS.Facts prog_12_method_86_code 0 [(.aload_n 0, 1), (.iconst 0, 1), (.putfield 74, 3), (.aload_n 0, 1), (.iload_n 1, 1), (.invokevirtual 241, 3), (.ifCond .eq (11), 3), (.aload_n 0, 1), (.iload_n 2, 1), (.invokevirtual 241, 3), (.ifCond .ne (5), 3), (.iconst (-1), 1), (.ireturn, 1), (.aload_n 0, 1), (.iload_n 1, 1), (.iload_n 2, 1), (.invokevirtual 277, 3), (.aload_n 0, 1), (.invokevirtual 326, 3), (.ifCond .eq (7), 3), (.iconst 1, 1), (.goto (4), 3), (.iconst 0, 1), (.ireturn, 1)] := Jvm.Free.DS.facts 0 _ (by decide +kernel) (by decide +kernel)
theorem d_MD_undoes_0 : decode prog_12_method_86_code 0 = .ok (.aload_n 0, 1) := F_MD_undoes_0.1
theorem d_MD_undoes_1 : decode prog_12_method_86_code 1 = .ok (.iconst 0, 1) := F_MD_undoes_0.2.1
theorem d_MD_undoes_2 : decode prog_12_method_86_code 2 = .ok (.putfield 74, 3) := F_MD_undoes_0.2.2.1
theorem d_MD_undoes_5 : decode prog_12_method_86_code 5 = .ok (.aload_n 0, 1) := F_MD_undoes_0.2.2.2.1
theorem d_MD_undoes_6 : decode prog_12_method_86_code 6 = .ok (.iload_n 1, 1) := F_MD_undoes_0.2.2.2.2.1
theorem d_MD_undoes_7 : decode prog_12_method_86_code 7 = .ok (.invokevirtual 241, 3) := F_MD_undoes_0.2.2.2.2.2.1
theorem d_MD_undoes_10 : decode prog_12_method_86_code 10 = .ok (.ifCond .eq (11), 3) := F_MD_undoes_0.2.2.2.2.2.2.1
theorem d_MD_undoes_13 : decode prog_12_method_86_code 13 = .ok (.aload_n 0, 1) := F_MD_undoes_0.2.2.2.2.2.2.2.1
theorem d_MD_undoes_14 : decode prog_12_method_86_code 14 = .ok (.iload_n 2, 1) := F_MD_undoes_0.2.2.2.2.2.2.2.2.1
theorem d_MD_undoes_15 : decode prog_12_method_86_code 15 = .ok (.invokevirtual 241, 3) := F_MD_undoes_0.2.2.2.2.2.2.2.2.2.1
theorem d_MD_undoes_18 : decode prog_12_method_86_code 18 = .ok (.ifCond .ne (5), 3) := F_MD_undoes_0.2.2.2.2.2.2.2.2.2.2.1
theorem d_MD_undoes_21 : decode prog_12_method_86_code 21 = .ok (.iconst (-1), 1) := F_MD_undoes_0.2.2.2.2.2.2.2.2.2.2.2.1
theorem d_MD_undoes_22 : decode prog_12_method_86_code 22 = .ok (.ireturn, 1) := F_MD_undoes_0.2.2.2.2.2.2.2.2.2.2.2.2.1
theorem d_MD_undoes_23 : decode prog_12_method_86_code 23 = .ok (.aload_n 0, 1) := F_MD_undoes_0.2.2.2.2.2.2.2.2.2.2.2.2.2.1
theorem d_MD_undoes_24 : decode prog_12_method_86_code 24 = .ok (.iload_n 1, 1) := F_MD_undoes_0.2.2.2.2.2.2.2.2.2.2.2.2.2.2.1
theorem d_MD_undoes_25 : decode prog_12_method_86_code 25 = .ok (.iload_n 2, 1) := F_MD_undoes_0.2.2.2.2.2.2.2.2.2.2.2.2.2.2.2.1
theorem d_MD_undoes_26 : decode prog_12_method_86_code 26 = .ok (.invokevirtual 277, 3) := F_MD_undoes_0.2.2.2.2.2.2.2.2.2.2.2.2.2.2.2.2.1
theorem d_MD_undoes_29 : decode prog_12_method_86_code 29 = .ok (.aload_n 0, 1) := F_MD_undoes_0.2.2.2.2.2.2.2.2.2.2.2.2.2.2.2.2.2.1
theorem d_MD_undoes_30 : decode prog_12_method_86_code 30 = .ok (.invokevirtual 326, 3) := F_MD_undoes_0.2.2.2.2.2.2.2.2.2.2.2.2.2.2.2.2.2.2.1
theorem d_MD_undoes_33 : decode prog_12_method_86_code 33 = .ok (.ifCond .eq (7), 3) := F_MD_undoes_0.2.2.2.2.2.2.2.2.2.2.2.2.2.2.2.2.2.2.2.1
theorem d_MD_undoes_36 : decode prog_12_method_86_code 36 = .ok (.iconst 1, 1) := F_MD_undoes_0.2.2.2.2.2.2.2.2.2.2.2.2.2.2.2.2.2.2.2.2.1
theorem d_MD_undoes_37 : decode prog_12_method_86_code 37 = .ok (.goto (4), 3) := F_MD_undoes_0.2.2.2.2.2.2.2.2.2.2.2.2.2.2.2.2.2.2.2.2.2.1
theorem d_MD_undoes_40 : decode prog_12_method_86_code 40 = .ok (.iconst 0, 1) := F_MD_undoes_0.2.2.2.2.2.2.2.2.2.2.2.2.2.2.2.2.2.2.2.2.2.2.1
theorem d_MD_undoes_41 : decode prog_12_method_86_code 41 = .ok (.ireturn, 1) := F_MD_undoes_0.2.2.2.2.2.2.2.2.2.2.2.2.2.2.2.2.2.2.2.2.2.2.2.1
theorem F_MD_stays_0 : Jvm.Free.DS.Facts prog_12_method_88_code 0 [(.aload_n 0, 1), (.iconst 0, 1), (.putfield 74, 3), (.aload_n 0, 1), (.iload_n 1, 1), (.invokevirtual 241, 3), (.ifCond .eq (11), 3), (.aload_n 0, 1), (.iload_n 2, 1), (.invokevirtual 247, 3), (.ifCond .ne (5), 3), (.iconst (-1), 1), (.ireturn, 1), (.aload_n 0, 1), (.iload_n 1, 1), (.iload_n 2, 1), (.invokevirtual 334, 3), (.ifCond .eq (7), 3), (.iconst 1, 1), (.goto (4), 3), (.iconst 0, 1), (.ireturn, 1)] := Jvm.Free.DS.facts 0 _ (by decide +kernel) (by decide +kernel)
theorem d_MD_stays_0 : decode prog_12_method_88_code 0 = .ok (.aload_n 0, 1) := F_MD_stays_0.1
theorem d_MD_stays_1 : decode prog_12_method_88_code 1 = .ok (.iconst 0, 1) := F_MD_stays_0.2.1
theorem d_MD_stays_2 : decode prog_12_method_88_code 2 = .ok (.putfield 74, 3) := F_MD_stays_0.2.2.1
theorem d_MD_stays_5 : decode prog_12_method_88_code 5 = .ok (.aload_n 0, 1) := F_MD_stays_0.2.2.2.1
theorem d_MD_stays_6 : decode prog_12_method_88_code 6 = .ok (.iload_n 1, 1) := F_MD_stays_0.2.2.2.2.1
theorem d_MD_stays_7 : decode prog_12_method_88_code 7 = .ok (.invokevirtual 241, 3) := F_MD_stays_0.2.2.2.2.2.1
theorem d_MD_stays_10 : decode prog_12_method_88_code 10 = .ok (.ifCond .eq (11), 3) := F_MD_stays_0.2.2.2.2.2.2.1
theorem d_MD_stays_13 : decode prog_12_method_88_code 13 = .ok (.aload_n 0, 1) := F_MD_stays_0.2.2.2.2.2.2.2.1
theorem d_MD_stays_14 : decode prog_12_method_88_code 14 = .ok (.iload_n 2, 1) := F_MD_stays_0.2.2.2.2.2.2.2.2.1
theorem d_MD_stays_15 : decode prog_12_method_88_code 15 = .ok (.invokevirtual 247, 3) := F_MD_stays_0.2.2.2.2.2.2.2.2.2.1
theorem d_MD_stays_18 : decode prog_12_method_88_code 18 = .ok (.ifCond .ne (5), 3) := F_MD_stays_0.2.2.2.2.2.2.2.2.2.2.1
theorem d_MD_stays_21 : decode prog_12_method_88_code 21 = .ok (.iconst (-1), 1) := F_MD_stays_0.2.2.2.2.2.2.2.2.2.2.2.1
theorem d_MD_stays_22 : decode prog_12_method_88_code 22 = .ok (.ireturn, 1) := F_MD_stays_0.2.2.2.2.2.2.2.2.2.2.2.2.1
theorem d_MD_stays_23 : decode prog_12_method_88_code 23 = .ok (.aload_n 0, 1) := F_MD_stays_0.2.2.2.2.2.2.2.2.2.2.2.2.2.1
theorem d_MD_stays_24 : decode prog_12_method_88_code 24 = .ok (.iload_n 1, 1) := F_MD_stays_0.2.2.2.2.2.2.2.2.2.2.2.2.2.2.1
theorem d_MD_stays_25 : decode prog_12_method_88_code 25 = .ok (.iload_n 2, 1) := F_MD_stays_0.2.2.2.2.2.2.2.2.2.2.2.2.2.2.2.1
theorem d_MD_stays_26 : decode prog_12_method_88_code 26 = .ok (.invokevirtual 334, 3) := F_MD_stays_0.2.2.2.2.2.2.2.2.2.2.2.2.2.2.2.2.1
theorem d_MD_stays_29 : decode prog_12_method_88_code 29 = .ok (.ifCond .eq (7), 3) := F_MD_stays_0.2.2.2.2.2.2.2.2.2.2.2.2.2.2.2.2.2.1
theorem d_MD_stays_32 : decode prog_12_method_88_code 32 = .ok (.iconst 1, 1) := F_MD_stays_0.2.2.2.2.2.2.2.2.2.2.2.2.2.2.2.2.2.2.1
theorem d_MD_stays_33 : decode prog_12_method_88_code 33 = .ok (.goto (4), 3) := F_MD_stays_0.2.2.2.2.2.2.2.2.2.2.2.2.2.2.2.2.2.2.2.1
theorem d_MD_stays_36 : decode prog_12_method_88_code 36 = .ok (.iconst 0, 1) := F_MD_stays_0.2.2.2.2.2.2.2.2.2.2.2.2.2.2.2.2.2.2.2.2.1
theorem d_MD_stays_37 : decode prog_12_method_88_code 37 = .ok (.ireturn, 1) := F_MD_stays_0.2.2.2.2.2.2.2.2.2.2.2.2.2.2.2.2.2.2.2.2.2.1
theorem F_MD_doesStay_0 : Jvm.Free.DS.Facts prog_12_method_87_code 0 [(.aload_n 0, 1), (.iload_n 1, 1), (.iload_n 2, 1), (.invokevirtual 298, 3), (.aload_n 0, 1), (.getfield 50, 3), (.iconst 0, 1), (.laload, 1), (.aload_n 0, 1), (.iload_n 2, 1), (.iconst 0, 1), (.invokevirtual 250, 3), (.lcmp, 1), (.ifCond .ne (39), 3), (.aload_n 0, 1), (.getfield 50, 3), (.iconst 1, 1), (.laload, 1), (.aload_n 0, 1), (.iload_n 2, 1), (.iconst 1, 1), (.invokevirtual 250, 3), (.lcmp, 1), (.ifCond .ne (23), 3), (.aload_n 0, 1), (.getfield 50, 3), (.iconst 2, 1), (.laload, 1), (.aload_n 0, 1), (.iload_n 2, 1), (.iconst 2, 1), (.invokevirtual 250, 3)] := Jvm.Free.DS.facts 0 _ (by decide +kernel) (by decide +kernel)
theorem d_MD_doesStay_0 : decode prog_12_method_87_code 0 = .ok (.aload_n 0, 1) := F_MD_doesStay_0.1
theorem d_MD_doesStay_1 : decode prog_12_method_87_code 1 = .ok (.iload_n 1, 1) := F_MD_doesStay_0.2.1
theorem d_MD_doesStay_2 : decode prog_12_method_87_code 2 = .ok (.iload_n 2, 1) := F_MD_doesStay_0.2.2.1
theorem d_MD_doesStay_3 : decode prog_12_method_87_code 3 = .ok (.invokevirtual 298, 3) := F_MD_doesStay_0.2.2.2.1
theorem d_MD_doesStay_6 : decode prog_12_method_87_code 6 = .ok (.aload_n 0, 1) := F_MD_doesStay_0.2.2.2.2.1
theorem d_MD_doesStay_7 : decode prog_12_method_87_code 7 = .ok (.getfield 50, 3) := F_MD_doesStay_0.2.2.2.2.2.1
theorem d_MD_doesStay_10 : decode prog_12_method_87_code 10 = .ok (.iconst 0, 1) := F_MD_doesStay_0.2.2.2.2.2.2.1
theorem d_MD_doesStay_11 : decode prog_12_method_87_code 11 = .ok (.laload, 1) := F_MD_doesStay_0.2.2.2.2.2.2.2.1
theorem d_MD_doesStay_12 : decode prog_12_method_87_code 12 = .ok (.aload_n 0, 1) := F_MD_doesStay_0.2.2.2.2.2.2.2.2.1
theorem d_MD_doesStay_13 : decode prog_12_method_87_code 13 = .ok (.iload_n 2, 1) := F_MD_doesStay_0.2.2.2.2.2.2.2.2.2.1
theorem d_MD_doesStay_14 : decode prog_12_method_87_code 14 = .ok (.iconst 0, 1) := F_MD_doesStay_0.2.2.2.2.2.2.2.2.2.2.1
theorem d_MD_doesStay_15 : decode prog_12_method_87_code 15 = .ok (.invokevirtual 250, 3) := F_MD_doesStay_0.2.2.2.2.2.2.2.2.2.2.2.1
theorem d_MD_doesStay_18 : decode prog_12_method_87_code 18 = .ok (.lcmp, 1) := F_MD_doesStay_0.2.2.2.2.2.2.2.2.2.2.2.2.1
theorem d_MD_doesStay_19 : decode prog_12_method_87_code 19 = .ok (.ifCond .ne (39), 3) := F_MD_doesStay_0.2.2.2.2.2.2.2.2.2.2.2.2.2.1
theorem d_MD_doesStay_22 : decode prog_12_method_87_code 22 = .ok (.aload_n 0, 1) := F_MD_doesStay_0.2.2.2.2.2.2.2.2.2.2.2.2.2.2.1
theorem d_MD_doesStay_23 : decode prog_12_method_87_code 23 = .ok (.getfield 50, 3) := F_MD_doesStay_0.2.2.2.2.2.2.2.2.2.2.2.2.2.2.2.1
theorem d_MD_doesStay_26 : decode prog_12_method_87_code 26 = .ok (.iconst 1, 1) := F_MD_doesStay_0.2.2.2.2.2.2.2.2.2.2.2.2.2.2.2.2.1
theorem d_MD_doesStay_27 : decode prog_12_method_87_code 27 = .ok (.laload, 1) := F_MD_doesStay_0.2.2.2.2.2.2.2.2.2.2.2.2.2.2.2.2.2.1
theorem d_MD_doesStay_28 : decode prog_12_method_87_code 28 = .ok (.aload_n 0, 1) := F_MD_doesStay_0.2.2.2.2.2.2.2.2.2.2.2.2.2.2.2.2.2.2.1
theorem d_MD_doesStay_29 : decode prog_12_method_87_code 29 = .ok (.iload_n 2, 1) := F_MD_doesStay_0.2.2.2.2.2.2.2.2.2.2.2.2.2.2.2.2.2.2.2.1
theorem d_MD_doesStay_30 : decode prog_12_method_87_code 30 = .ok (.iconst 1, 1) := F_MD_doesStay_0.2.2.2.2.2.2.2.2.2.2.2.2.2.2.2.2.2.2.2.2.1
theorem d_MD_doesStay_31 : decode prog_12_method_87_code 31 = .ok (.invokevirtual 250, 3) := F_MD_doesStay_0.2.2.2.2.2.2.2.2.2.2.2.2.2.2.2.2.2.2.2.2.2.1
theorem d_MD_doesStay_34 : decode prog_12_method_87_code 34 = .ok (.lcmp, 1) := F_MD_doesStay_0.2.2.2.2.2.2.2.2.2.2.2.2.2.2.2.2.2.2.2.2.2.2.1
theorem d_MD_doesStay_35 : decode prog_12_method_87_code 35 = .ok (.ifCond .ne (23), 3) := F_MD_doesStay_0.2.2.2.2.2.2.2.2.2.2.2.2.2.2.2.2.2.2.2.2.2.2.2.1
theorem d_MD_doesStay_38 : decode prog_12_method_87_code 38 = .ok (.aload_n 0, 1) := F_MD_doesStay_0.2.2.2.2.2.2.2.2.2.2.2.2.2.2.2.2.2.2.2.2.2.2.2.2.1
theorem d_MD_doesStay_39 : decode prog_12_method_87_code 39 = .ok (.getfield 50, 3) := F_MD_doesStay_0.2.2.2.2.2.2.2.2.2.2.2.2.2.2.2.2.2.2.2.2.2.2.2.2.2.1
theorem d_MD_doesStay_42 : decode prog_12_method_87_code 42 = .ok (.iconst 2, 1) := F_MD_doesStay_0.2.2.2.2.2.2.2.2.2.2.2.2.2.2.2.2.2.2.2.2.2.2.2.2.2.2.1
theorem d_MD_doesStay_43 : decode prog_12_method_87_code 43 = .ok (.laload, 1) := F_MD_doesStay_0.2.2.2.2.2.2.2.2.2.2.2.2.2.2.2.2.2.2.2.2.2.2.2.2.2.2.2.1
theorem d_MD_doesStay_44 : decode prog_12_method_87_code 44 = .ok (.aload_n 0, 1) := F_MD_doesStay_0.2.2.2.2.2.2.2.2.2.2.2.2.2.2.2.2.2.2.2.2.2.2.2.2.2.2.2.2.1
theorem d_MD_doesStay_45 : decode prog_12_method_87_code 45 = .ok (.iload_n 2, 1) := F_MD_doesStay_0.2.2.2.2.2.2.2.2.2.2.2.2.2.2.2.2.2.2.2.2.2.2.2.2.2.2.2.2.2.1
theorem d_MD_doesStay_46 : decode prog_12_method_87_code 46 = .ok (.iconst 2, 1) := F_MD_doesStay_0.2.2.2.2.2.2.2.2.2.2.2.2.2.2.2.2.2.2.2.2.2.2.2.2.2.2.2.2.2.2.1
theorem d_MD_doesStay_47 : decode prog_12_method_87_code 47 = .ok (.invokevirtual 250, 3) := F_MD_doesStay_0.2.2.2.2.2.2.2.2.2.2.2.2.2.2.2.2.2.2.2.2.2.2.2.2.2.2.2.2.2.2.2.1
theorem F_MD_doesStay_50 : Jvm.Free.DS.Facts prog_12_method_87_code 50 [(.lcmp, 1), (.ifCond .ne (7), 3), (.iconst 1, 1), (.goto (4), 3), (.iconst 0, 1), (.ireturn, 1)] := Jvm.Free.DS.facts 50 _ (by decide +kernel) (by decide +kernel)
theorem d_MD_doesStay_50 : decode prog_12_method_87_code 50 = .ok (.lcmp, 1) := F_MD_doesStay_50.1
theorem d_MD_doesStay_51 : decode prog_12_method_87_code 51 = .ok (.ifCond .ne (7), 3) := F_MD_doesStay_50.2.1
theorem d_MD_doesStay_54 : decode prog_12_method_87_code 54 = .ok (.iconst 1, 1) := F_MD_doesStay_50.2.2.1
theorem d_MD_doesStay_55 : decode prog_12_method_87_code 55 = .ok (.goto (4), 3) := F_MD_doesStay_50.2.2.2.1
theorem d_MD_doesStay_58 : decode prog_12_method_87_code 58 = .ok (.iconst 0, 1) := F_MD_doesStay_50.2.2.2.2.1
theorem d_MD_doesStay_59 : decode prog_12_method_87_code 59 = .ok (.ireturn, 1) := F_MD_doesStay_50.2.2.2.2.2.1
theorem F_MD_points_0 : Jvm.Free.DS.Facts prog_12_method_89_code 0 [(.aload_n 0, 1), (.iconst 0, 1), (.putfield 74, 3), (.aload_n 0, 1), (.iload_n 1, 1), (.invokevirtual 241, 3), (.ifCond .eq (10), 3), (.iload_n 2, 1), (.invokestatic 244, 3), (.ifCond .ne (5), 3), (.iconst (-1), 1), (.ireturn, 1), (.iconst 0, 1), (.istore_n 3, 1), (.iconst 0, 1), (.istore 4, 2), (.iload 4, 2), (.i2l, 1), (.aload_n 0, 1), (.getfield 21, 3), (.sipush (169), 3), (.laload, 1), (.lcmp, 1), (.ifCond .ge (100), 3), (.aload_n 0, 1), (.iload_n 1, 1), (.iload 4, 2), (.invokevirtual 334, 3), (.istore 5, 2), (.aload_n 0, 1), (.getfield 50, 3), (.iconst 2, 1)] := Jvm.Free.DS.facts 0 _ (by decide +kernel) (by decide +kernel)
theorem d_MD_points_0 : decode prog_12_method_89_code 0 = .ok (.aload_n 0, 1) := F_MD_points_0.1
theorem d_MD_points_1 : decode prog_12_method_89_code 1 = .ok (.iconst 0, 1) := F_MD_points_0.2.1
theorem d_MD_points_2 : decode prog_12_method_89_code 2 = .ok (.putfield 74, 3) := F_MD_points_0.2.2.1
theorem d_MD_points_5 : decode prog_12_method_89_code 5 = .ok (.aload_n 0, 1) := F_MD_points_0.2.2.2.1
theorem d_MD_points_6 : decode prog_12_method_89_code 6 = .ok (.iload_n 1, 1) := F_MD_points_0.2.2.2.2.1
theorem d_MD_points_7 : decode prog_12_method_89_code 7 = .ok (.invokevirtual 241, 3) := F_MD_points_0.2.2.2.2.2.1
theorem d_MD_points_10 : decode prog_12_method_89_code 10 = .ok (.ifCond .eq (10), 3) := F_MD_points_0.2.2.2.2.2.2.1
theorem d_MD_points_13 : decode prog_12_method_89_code 13 = .ok (.iload_n 2, 1) := F_MD_points_0.2.2.2.2.2.2.2.1
theorem d_MD_points_14 : decode prog_12_method_89_code 14 = .ok (.invokestatic 244, 3) := F_MD_points_0.2.2.2.2.2.2.2.2.1
theorem d_MD_points_17 : decode prog_12_method_89_code 17 = .ok (.ifCond .ne (5), 3) := F_MD_points_0.2.2.2.2.2.2.2.2.2.1
theorem d_MD_points_20 : decode prog_12_method_89_code 20 = .ok (.iconst (-1), 1) := F_MD_points_0.2.2.2.2.2.2.2.2.2.2.1
theorem d_MD_points_21 : decode prog_12_method_89_code 21 = .ok (.ireturn, 1) := F_MD_points_0.2.2.2.2.2.2.2.2.2.2.2.1
theorem d_MD_points_22 : decode prog_12_method_89_code 22 = .ok (.iconst 0, 1) := F_MD_points_0.2.2.2.2.2.2.2.2.2.2.2.2.1
theorem d_MD_points_23 : decode prog_12_method_89_code 23 = .ok (.istore_n 3, 1) := F_MD_points_0.2.2.2.2.2.2.2.2.2.2.2.2.2.1
theorem d_MD_points_24 : decode prog_12_method_89_code 24 = .ok (.iconst 0, 1) := F_MD_points_0.2.2.2.2.2.2.2.2.2.2.2.2.2.2.1
theorem d_MD_points_25 : decode prog_12_method_89_code 25 = .ok (.istore 4, 2) := F_MD_points_0.2.2.2.2.2.2.2.2.2.2.2.2.2.2.2.1
theorem d_MD_points_27 : decode prog_12_method_89_code 27 = .ok (.iload 4, 2) := F_MD_points_0.2.2.2.2.2.2.2.2.2.2.2.2.2.2.2.2.1
theorem d_MD_points_29 : decode prog_12_method_89_code 29 = .ok (.i2l, 1) := F_MD_points_0.2.2.2.2.2.2.2.2.2.2.2.2.2.2.2.2.2.1
theorem d_MD_points_30 : decode prog_12_method_89_code 30 = .ok (.aload_n 0, 1) := F_MD_points_0.2.2.2.2.2.2.2.2.2.2.2.2.2.2.2.2.2.2.1
theorem d_MD_points_31 : decode prog_12_method_89_code 31 = .ok (.getfield 21, 3) := F_MD_points_0.2.2.2.2.2.2.2.2.2.2.2.2.2.2.2.2.2.2.2.1
theorem d_MD_points_34 : decode prog_12_method_89_code 34 = .ok (.sipush (169), 3) := F_MD_points_0.2.2.2.2.2.2.2.2.2.2.2.2.2.2.2.2.2.2.2.2.1
theorem d_MD_points_37 : decode prog_12_method_89_code 37 = .ok (.laload, 1) := F_MD_points_0.2.2.2.2.2.2.2.2.2.2.2.2.2.2.2.2.2.2.2.2.2.1
theorem d_MD_points_38 : decode prog_12_method_89_code 38 = .ok (.lcmp, 1) := F_MD_points_0.2.2.2.2.2.2.2.2.2.2.2.2.2.2.2.2.2.2.2.2.2.2.1
theorem d_MD_points_39 : decode prog_12_method_89_code 39 = .ok (.ifCond .ge (100), 3) := F_MD_points_0.2.2.2.2.2.2.2.2.2.2.2.2.2.2.2.2.2.2.2.2.2.2.2.1
theorem d_MD_points_42 : decode prog_12_method_89_code 42 = .ok (.aload_n 0, 1) := F_MD_points_0.2.2.2.2.2.2.2.2.2.2.2.2.2.2.2.2.2.2.2.2.2.2.2.2.1
theorem d_MD_points_43 : decode prog_12_method_89_code 43 = .ok (.iload_n 1, 1) := F_MD_points_0.2.2.2.2.2.2.2.2.2.2.2.2.2.2.2.2.2.2.2.2.2.2.2.2.2.1
theorem d_MD_points_44 : decode prog_12_method_89_code 44 = .ok (.iload 4, 2) := F_MD_points_0.2.2.2.2.2.2.2.2.2.2.2.2.2.2.2.2.2.2.2.2.2.2.2.2.2.2.1
theorem d_MD_points_46 : decode prog_12_method_89_code 46 = .ok (.invokevirtual 334, 3) := F_MD_points_0.2.2.2.2.2.2.2.2.2.2.2.2.2.2.2.2.2.2.2.2.2.2.2.2.2.2.2.1
theorem d_MD_points_49 : decode prog_12_method_89_code 49 = .ok (.istore 5, 2) := F_MD_points_0.2.2.2.2.2.2.2.2.2.2.2.2.2.2.2.2.2.2.2.2.2.2.2.2.2.2.2.2.1
theorem d_MD_points_51 : decode prog_12_method_89_code 51 = .ok (.aload_n 0, 1) := F_MD_points_0.2.2.2.2.2.2.2.2.2.2.2.2.2.2.2.2.2.2.2.2.2.2.2.2.2.2.2.2.2.1
theorem d_MD_points_52 : decode prog_12_method_89_code 52 = .ok (.getfield 50, 3) := F_MD_points_0.2.2.2.2.2.2.2.2.2.2.2.2.2.2.2.2.2.2.2.2.2.2.2.2.2.2.2.2.2.2.1
theorem d_MD_points_55 : decode prog_12_method_89_code 55 = .ok (.iconst 2, 1) := F_MD_points_0.2.2.2.2.2.2.2.2.2.2.2.2.2.2.2.2.2.2.2.2.2.2.2.2.2.2.2.2.2.2.2.1
theorem F_MD_points_56 : Jvm.Free.DS.Facts prog_12_method_89_code 56 [(.laload, 1), (.lconst 0, 1), (.lcmp, 1), (.ifCond .eq (7), 3), (.iconst 1, 1), (.goto (4), 3), (.iconst 0, 1), (.istore 6, 2), (.iload_n 2, 1), (.ifCond .ne (8), 3), (.iload 5, 2), (.goto (43), 3), (.iload_n 2, 1), (.iconst 1, 1), (.if_icmp .ne (16), 3), (.iload 6, 2), (.ifCond .ne (7), 3), (.iconst 1, 1), (.goto (29), 3), (.iconst 0, 1), (.goto (25), 3), (.iload 6, 2), (.ifCond .eq (19), 3), (.aload_n 0, 1), (.iload 4, 2), (.iconst 2, 1), (.invokevirtual 250, 3), (.lconst 0, 1), (.lcmp, 1), (.ifCond .ne (7), 3), (.iconst 1, 1), (.goto (4), 3)] := Jvm.Free.DS.facts 56 _ (by decide +kernel) (by decide +kernel)
theorem d_MD_points_56 : decode prog_12_method_89_code 56 = .ok (.laload, 1) := F_MD_points_56.1
theorem d_MD_points_57 : decode prog_12_method_89_code 57 = .ok (.lconst 0, 1) := F_MD_points_56.2.1
theorem d_MD_points_58 : decode prog_12_method_89_code 58 = .ok (.lcmp, 1) := F_MD_points_56.2.2.1
theorem d_MD_points_59 : decode prog_12_method_89_code 59 = .ok (.ifCond .eq (7), 3) := F_MD_points_56.2.2.2.1
theorem d_MD_points_62 : decode prog_12_method_89_code 62 = .ok (.iconst 1, 1) := F_MD_points_56.2.2.2.2.1
theorem d_MD_points_63 : decode prog_12_method_89_code 63 = .ok (.goto (4), 3) := F_MD_points_56.2.2.2.2.2.1
theorem d_MD_points_66 : decode prog_12_method_89_code 66 = .ok (.iconst 0, 1) := F_MD_points_56.2.2.2.2.2.2.1
theorem d_MD_points_67 : decode prog_12_method_89_code 67 = .ok (.istore 6, 2) := F_MD_points_56.2.2.2.2.2.2.2.1
theorem d_MD_points_69 : decode prog_12_method_89_code 69 = .ok (.iload_n 2, 1) := F_MD_points_56.2.2.2.2.2.2.2.2.1
theorem d_MD_points_70 : decode prog_12_method_89_code 70 = .ok (.ifCond .ne (8), 3) := F_MD_points_56.2.2.2.2.2.2.2.2.2.1
theorem d_MD_points_73 : decode prog_12_method_89_code 73 = .ok (.iload 5, 2) := F_MD_points_56.2.2.2.2.2.2.2.2.2.2.1
theorem d_MD_points_75 : decode prog_12_method_89_code 75 = .ok (.goto (43), 3) := F_MD_points_56.2.2.2.2.2.2.2.2.2.2.2.1
theorem d_MD_points_78 : decode prog_12_method_89_code 78 = .ok (.iload_n 2, 1) := F_MD_points_56.2.2.2.2.2.2.2.2.2.2.2.2.1
theorem d_MD_points_79 : decode prog_12_method_89_code 79 = .ok (.iconst 1, 1) := F_MD_points_56.2.2.2.2.2.2.2.2.2.2.2.2.2.1
theorem d_MD_points_80 : decode prog_12_method_89_code 80 = .ok (.if_icmp .ne (16), 3) := F_MD_points_56.2.2.2.2.2.2.2.2.2.2.2.2.2.2.1
theorem d_MD_points_83 : decode prog_12_method_89_code 83 = .ok (.iload 6, 2) := F_MD_points_56.2.2.2.2.2.2.2.2.2.2.2.2.2.2.2.1
theorem d_MD_points_85 : decode prog_12_method_89_code 85 = .ok (.ifCond .ne (7), 3) := F_MD_points_56.2.2.2.2.2.2.2.2.2.2.2.2.2.2.2.2.1
theorem d_MD_points_88 : decode prog_12_method_89_code 88 = .ok (.iconst 1, 1) := F_MD_points_56.2.2.2.2.2.2.2.2.2.2.2.2.2.2.2.2.2.1
theorem d_MD_points_89 : decode prog_12_method_89_code 89 = .ok (.goto (29), 3) := F_MD_points_56.2.2.2.2.2.2.2.2.2.2.2.2.2.2.2.2.2.2.1
theorem d_MD_points_92 : decode prog_12_method_89_code 92 = .ok (.iconst 0, 1) := F_MD_points_56.2.2.2.2.2.2.2.2.2.2.2.2.2.2.2.2.2.2.2.1
theorem d_MD_points_93 : decode prog_12_method_89_code 93 = .ok (.goto (25), 3) := F_MD_points_56.2.2.2.2.2.2.2.2.2.2.2.2.2.2.2.2.2.2.2.2.1
theorem d_MD_points_96 : decode prog_12_method_89_code 96 = .ok (.iload 6, 2) := F_MD_points_56.2.2.2.2.2.2.2.2.2.2.2.2.2.2.2.2.2.2.2.2.2.1
theorem d_MD_points_98 : decode prog_12_method_89_code 98 = .ok (.ifCond .eq (19), 3) := F_MD_points_56.2.2.2.2.2.2.2.2.2.2.2.2.2.2.2.2.2.2.2.2.2.2.1
theorem d_MD_points_101 : decode prog_12_method_89_code 101 = .ok (.aload_n 0, 1) := F_MD_points_56.2.2.2.2.2.2.2.2.2.2.2.2.2.2.2.2.2.2.2.2.2.2.2.1
theorem d_MD_points_102 : decode prog_12_method_89_code 102 = .ok (.iload 4, 2) := F_MD_points_56.2.2.2.2.2.2.2.2.2.2.2.2.2.2.2.2.2.2.2.2.2.2.2.2.1
theorem d_MD_points_104 : decode prog_12_method_89_code 104 = .ok (.iconst 2, 1) := F_MD_points_56.2.2.2.2.2.2.2.2.2.2.2.2.2.2.2.2.2.2.2.2.2.2.2.2.2.1
theorem d_MD_points_105 : decode prog_12_method_89_code 105 = .ok (.invokevirtual 250, 3) := F_MD_points_56.2.2.2.2.2.2.2.2.2.2.2.2.2.2.2.2.2.2.2.2.2.2.2.2.2.2.1
theorem d_MD_points_108 : decode prog_12_method_89_code 108 = .ok (.lconst 0, 1) := F_MD_points_56.2.2.2.2.2.2.2.2.2.2.2.2.2.2.2.2.2.2.2.2.2.2.2.2.2.2.2.1
theorem d_MD_points_109 : decode prog_12_method_89_code 109 = .ok (.lcmp, 1) := F_MD_points_56.2.2.2.2.2.2.2.2.2.2.2.2.2.2.2.2.2.2.2.2.2.2.2.2.2.2.2.2.1
theorem d_MD_points_110 : decode prog_12_method_89_code 110 = .ok (.ifCond .ne (7), 3) := F_MD_points_56.2.2.2.2.2.2.2.2.2.2.2.2.2.2.2.2.2.2.2.2.2.2.2.2.2.2.2.2.2.1
theorem d_MD_points_113 : decode prog_12_method_89_code 113 = .ok (.iconst 1, 1) := F_MD_points_56.2.2.2.2.2.2.2.2.2.2.2.2.2.2.2.2.2.2.2.2.2.2.2.2.2.2.2.2.2.2.1
theorem d_MD_points_114 : decode prog_12_method_89_code 114 = .ok (.goto (4), 3) := F_MD_points_56.2.2.2.2.2.2.2.2.2.2.2.2.2.2.2.2.2.2.2.2.2.2.2.2.2.2.2.2.2.2.2.1
theorem F_MD_points_117 : Jvm.Free.DS.Facts prog_12_method_89_code 117 [(.iconst 0, 1), (.istore 7, 2), (.iload_n 3, 1), (.iload 7, 2), (.ifCond .eq (7), 3), (.iconst 1, 1), (.goto (4), 3), (.iconst 0, 1), (.iadd, 1), (.istore_n 3, 1), (.iinc 4 (1), 3), (.goto (-109), 3), (.iload_n 3, 1), (.ireturn, 1)] := Jvm.Free.DS.facts 117 _ (by decide +kernel) (by decide +kernel)
theorem d_MD_points_117 : decode prog_12_method_89_code 117 = .ok (.iconst 0, 1) := F_MD_points_117.1
theorem d_MD_points_118 : decode prog_12_method_89_code 118 = .ok (.istore 7, 2) := F_MD_points_117.2.1
theorem d_MD_points_120 : decode prog_12_method_89_code 120 = .ok (.iload_n 3, 1) := F_MD_points_117.2.2.1
theorem d_MD_points_121 : decode prog_12_method_89_code 121 = .ok (.iload 7, 2) := F_MD_points_117.2.2.2.1
theorem d_MD_points_123 : decode prog_12_method_89_code 123 = .ok (.ifCond .eq (7), 3) := F_MD_points_117.2.2.2.2.1
theorem d_MD_points_126 : decode prog_12_method_89_code 126 = .ok (.iconst 1, 1) := F_MD_points_117.2.2.2.2.2.1
theorem d_MD_points_127 : decode prog_12_method_89_code 127 = .ok (.goto (4), 3) := F_MD_points_117.2.2.2.2.2.2.1
theorem d_MD_points_130 : decode prog_12_method_89_code 130 = .ok (.iconst 0, 1) := F_MD_points_117.2.2.2.2.2.2.2.1
theorem d_MD_points_131 : decode prog_12_method_89_code 131 = .ok (.iadd, 1) := F_MD_points_117.2.2.2.2.2.2.2.2.1
theorem d_MD_points_132 : decode prog_12_method_89_code 132 = .ok (.istore_n 3, 1) := F_MD_points_117.2.2.2.2.2.2.2.2.2.1
theorem d_MD_points_133 : decode prog_12_method_89_code 133 = .ok (.iinc 4 (1), 3) := F_MD_points_117.2.2.2.2.2.2.2.2.2.2.1
theorem d_MD_points_136 : decode prog_12_method_89_code 136 = .ok (.goto (-109), 3) := F_MD_points_117.2.2.2.2.2.2.2.2.2.2.2.1
theorem d_MD_points_139 : decode prog_12_method_89_code 139 = .ok (.iload_n 3, 1) := F_MD_points_117.2.2.2.2.2.2.2.2.2.2.2.2.1
theorem d_MD_points_140 : decode prog_12_method_89_code 140 = .ok (.ireturn, 1) := F_MD_points_117.2.2.2.2.2.2.2.2.2.2.2.2.2.1
theorem F_MD_join_0 : Jvm.Free.DS.Facts prog_12_method_93_code 0 [(.aload_n 0, 1), (.iconst 0, 1), (.putfield 74, 3), (.aload_n 0, 1), (.iload_n 1, 1), (.invokevirtual 247, 3), (.ifCond .eq (18), 3), (.aload_n 0, 1), (.iload_n 2, 1), (.invokevirtual 247, 3), (.ifCond .eq (10), 3), (.iload_n 3, 1), (.invokestatic 244, 3), (.ifCond .ne (7), 3), (.ldc2_w 307, 3), (.lreturn, 1), (.aload_n 0, 1), (.aload_n 0, 1), (.getfield 50, 3), (.iload_n 1, 1), (.iload_n 2, 1), (.invokevirtual 341, 3), (.aload_n 0, 1), (.getfield 50, 3), (.invokestatic 345, 3), (.ifCond .eq (7), 3), (.ldc2_w 309, 3), (.lreturn, 1), (.aload_n 0, 1), (.getfield 50, 3), (.invokestatic 220, 3), (.aload_n 0, 1)] := Jvm.Free.DS.facts 0 _ (by decide +kernel) (by decide +kernel)
theorem d_MD_join_0 : decode prog_12_method_93_code 0 = .ok (.aload_n 0, 1) := F_MD_join_0.1
theorem d_MD_join_1 : decode prog_12_method_93_code 1 = .ok (.iconst 0, 1) := F_MD_join_0.2.1
theorem d_MD_join_2 : decode prog_12_method_93_code 2 = .ok (.putfield 74, 3) := F_MD_join_0.2.2.1
theorem d_MD_join_5 : decode prog_12_method_93_code 5 = .ok (.aload_n 0, 1) := F_MD_join_0.2.2.2.1
theorem d_MD_join_6 : decode prog_12_method_93_code 6 = .ok (.iload_n 1, 1) := F_MD_join_0.2.2.2.2.1
theorem d_MD_join_7 : decode prog_12_method_93_code 7 = .ok (.invokevirtual 247, 3) := F_MD_join_0.2.2.2.2.2.1
theorem d_MD_join_10 : decode prog_12_method_93_code 10 = .ok (.ifCond .eq (18), 3) := F_MD_join_0.2.2.2.2.2.2.1
theorem d_MD_join_13 : decode prog_12_method_93_code 13 = .ok (.aload_n 0, 1) := F_MD_join_0.2.2.2.2.2.2.2.1
theorem d_MD_join_14 : decode prog_12_method_93_code 14 = .ok (.iload_n 2, 1) := F_MD_join_0.2.2.2.2.2.2.2.2.1
theorem d_MD_join_15 : decode prog_12_method_93_code 15 = .ok (.invokevirtual 247, 3) := F_MD_join_0.2.2.2.2.2.2.2.2.2.1
theorem d_MD_join_18 : decode prog_12_method_93_code 18 = .ok (.ifCond .eq (10), 3) := F_MD_join_0.2.2.2.2.2.2.2.2.2.2.1
theorem d_MD_join_21 : decode prog_12_method_93_code 21 = .ok (.iload_n 3, 1) := F_MD_join_0.2.2.2.2.2.2.2.2.2.2.2.1
theorem d_MD_join_22 : decode prog_12_method_93_code 22 = .ok (.invokestatic 244, 3) := F_MD_join_0.2.2.2.2.2.2.2.2.2.2.2.2.1
theorem d_MD_join_25 : decode prog_12_method_93_code 25 = .ok (.ifCond .ne (7), 3) := F_MD_join_0.2.2.2.2.2.2.2.2.2.2.2.2.2.1
theorem d_MD_join_28 : decode prog_12_method_93_code 28 = .ok (.ldc2_w 307, 3) := F_MD_join_0.2.2.2.2.2.2.2.2.2.2.2.2.2.2.1
theorem d_MD_join_31 : decode prog_12_method_93_code 31 = .ok (.lreturn, 1) := F_MD_join_0.2.2.2.2.2.2.2.2.2.2.2.2.2.2.2.1
theorem d_MD_join_32 : decode prog_12_method_93_code 32 = .ok (.aload_n 0, 1) := F_MD_join_0.2.2.2.2.2.2.2.2.2.2.2.2.2.2.2.2.1
theorem d_MD_join_33 : decode prog_12_method_93_code 33 = .ok (.aload_n 0, 1) := F_MD_join_0.2.2.2.2.2.2.2.2.2.2.2.2.2.2.2.2.2.1
theorem d_MD_join_34 : decode prog_12_method_93_code 34 = .ok (.getfield 50, 3) := F_MD_join_0.2.2.2.2.2.2.2.2.2.2.2.2.2.2.2.2.2.2.1
theorem d_MD_join_37 : decode prog_12_method_93_code 37 = .ok (.iload_n 1, 1) := F_MD_join_0.2.2.2.2.2.2.2.2.2.2.2.2.2.2.2.2.2.2.2.1
theorem d_MD_join_38 : decode prog_12_method_93_code 38 = .ok (.iload_n 2, 1) := F_MD_join_0.2.2.2.2.2.2.2.2.2.2.2.2.2.2.2.2.2.2.2.2.1
theorem d_MD_join_39 : decode prog_12_method_93_code 39 = .ok (.invokevirtual 341, 3) := F_MD_join_0.2.2.2.2.2.2.2.2.2.2.2.2.2.2.2.2.2.2.2.2.2.1
theorem d_MD_join_42 : decode prog_12_method_93_code 42 = .ok (.aload_n 0, 1) := F_MD_join_0.2.2.2.2.2.2.2.2.2.2.2.2.2.2.2.2.2.2.2.2.2.2.1
theorem d_MD_join_43 : decode prog_12_method_93_code 43 = .ok (.getfield 50, 3) := F_MD_join_0.2.2.2.2.2.2.2.2.2.2.2.2.2.2.2.2.2.2.2.2.2.2.2.1
theorem d_MD_join_46 : decode prog_12_method_93_code 46 = .ok (.invokestatic 345, 3) := F_MD_join_0.2.2.2.2.2.2.2.2.2.2.2.2.2.2.2.2.2.2.2.2.2.2.2.2.1
theorem d_MD_join_49 : decode prog_12_method_93_code 49 = .ok (.ifCond .eq (7), 3) := F_MD_join_0.2.2.2.2.2.2.2.2.2.2.2.2.2.2.2.2.2.2.2.2.2.2.2.2.2.1
theorem d_MD_join_52 : decode prog_12_method_93_code 52 = .ok (.ldc2_w 309, 3) := F_MD_join_0.2.2.2.2.2.2.2.2.2.2.2.2.2.2.2.2.2.2.2.2.2.2.2.2.2.2.1
theorem d_MD_join_55 : decode prog_12_method_93_code 55 = .ok (.lreturn, 1) := F_MD_join_0.2.2.2.2.2.2.2.2.2.2.2.2.2.2.2.2.2.2.2.2.2.2.2.2.2.2.2.1
theorem d_MD_join_56 : decode prog_12_method_93_code 56 = .ok (.aload_n 0, 1) := F_MD_join_0.2.2.2.2.2.2.2.2.2.2.2.2.2.2.2.2.2.2.2.2.2.2.2.2.2.2.2.2.1
theorem d_MD_join_57 : decode prog_12_method_93_code 57 = .ok (.getfield 50, 3) := F_MD_join_0.2.2.2.2.2.2.2.2.2.2.2.2.2.2.2.2.2.2.2.2.2.2.2.2.2.2.2.2.2.1
theorem d_MD_join_60 : decode prog_12_method_93_code 60 = .ok (.invokestatic 220, 3) := F_MD_join_0.2.2.2.2.2.2.2.2.2.2.2.2.2.2.2.2.2.2.2.2.2.2.2.2.2.2.2.2.2.2.1
theorem d_MD_join_63 : decode prog_12_method_93_code 63 = .ok (.aload_n 0, 1) := F_MD_join_0.2.2.2.2.2.2.2.2.2.2.2.2.2.2.2.2.2.2.2.2.2.2.2.2.2.2.2.2.2.2.2.1
theorem F_MD_join_64 : Jvm.Free.DS.Facts prog_12_method_93_code 64 [(.getfield 50, 3), (.iload_n 3, 1), (.laload, 1), (.lreturn, 1)] := Jvm.Free.DS.facts 64 _ (by decide +kernel) (by decide +kernel)
theorem d_MD_join_64 : decode prog_12_method_93_code 64 = .ok (.getfield 50, 3) := F_MD_join_64.1
theorem d_MD_join_67 : decode prog_12_method_93_code 67 = .ok (.iload_n 3, 1) := F_MD_join_64.2.1
theorem d_MD_join_68 : decode prog_12_method_93_code 68 = .ok (.laload, 1) := F_MD_join_64.2.2.1
theorem d_MD_join_69 : decode prog_12_method_93_code 69 = .ok (.lreturn, 1) := F_MD_join_64.2.2.2.1
theorem F_MD_crossesPoints_0 : Jvm.Free.DS.Facts prog_12_method_91_code 0 [(.aload_n 0, 1), (.aload_n 1, 1), (.aload_n 0, 1), (.iload_n 2, 1), (.iconst 0, 1), (.invokevirtual 250, 3), (.aload_n 0, 1), (.iload_n 2, 1), (.iconst 1, 1), (.invokevirtual 250, 3), (.aload_n 0, 1), (.iload_n 2, 1), (.iconst 2, 1), (.invokevirtual 250, 3), (.aload_n 0, 1), (.iload_n 3, 1), (.iconst 0, 1), (.invokevirtual 250, 3), (.aload_n 0, 1), (.iload_n 3, 1), (.iconst 1, 1), (.invokevirtual 250, 3), (.aload_n 0, 1), (.iload_n 3, 1), (.iconst 2, 1), (.invokevirtual 250, 3), (.invokevirtual 337, 3), (.return_, 1)] := Jvm.Free.DS.facts 0 _ (by decide +kernel) (by decide +kernel)
theorem d_MD_crossesPoints_0 : decode prog_12_method_91_code 0 = .ok (.aload_n 0, 1) := F_MD_crossesPoints_0.1
theorem d_MD_crossesPoints_1 : decode prog_12_method_91_code 1 = .ok (.aload_n 1, 1) := F_MD_crossesPoints_0.2.1
theorem d_MD_crossesPoints_2 : decode prog_12_method_91_code 2 = .ok (.aload_n 0, 1) := F_MD_crossesPoints_0.2.2.1
theorem d_MD_crossesPoints_3 : decode prog_12_method_91_code 3 = .ok (.iload_n 2, 1) := F_MD_crossesPoints_0.2.2.2.1
theorem d_MD_crossesPoints_4 : decode prog_12_method_91_code 4 = .ok (.iconst 0, 1) := F_MD_crossesPoints_0.2.2.2.2.1
theorem d_MD_crossesPoints_5 : decode prog_12_method_91_code 5 = .ok (.invokevirtual 250, 3) := F_MD_crossesPoints_0.2.2.2.2.2.1
theorem d_MD_crossesPoints_8 : decode prog_12_method_91_code 8 = .ok (.aload_n 0, 1) := F_MD_crossesPoints_0.2.2.2.2.2.2.1
theorem d_MD_crossesPoints_9 : decode prog_12_method_91_code 9 = .ok (.iload_n 2, 1) := F_MD_crossesPoints_0.2.2.2.2.2.2.2.1
theorem d_MD_crossesPoints_10 : decode prog_12_method_91_code 10 = .ok (.iconst 1, 1) := F_MD_crossesPoints_0.2.2.2.2.2.2.2.2.1
theorem d_MD_crossesPoints_11 : decode prog_12_method_91_code 11 = .ok (.invokevirtual 250, 3) := F_MD_crossesPoints_0.2.2.2.2.2.2.2.2.2.1
theorem d_MD_crossesPoints_14 : decode prog_12_method_91_code 14 = .ok (.aload_n 0, 1) := F_MD_crossesPoints_0.2.2.2.2.2.2.2.2.2.2.1
theorem d_MD_crossesPoints_15 : decode prog_12_method_91_code 15 = .ok (.iload_n 2, 1) := F_MD_crossesPoints_0.2.2.2.2.2.2.2.2.2.2.2.1
theorem d_MD_crossesPoints_16 : decode prog_12_method_91_code 16 = .ok (.iconst 2, 1) := F_MD_crossesPoints_0.2.2.2.2.2.2.2.2.2.2.2.2.1
theorem d_MD_crossesPoints_17 : decode prog_12_method_91_code 17 = .ok (.invokevirtual 250, 3) := F_MD_crossesPoints_0.2.2.2.2.2.2.2.2.2.2.2.2.2.1
theorem d_MD_crossesPoints_20 : decode prog_12_method_91_code 20 = .ok (.aload_n 0, 1) := F_MD_crossesPoints_0.2.2.2.2.2.2.2.2.2.2.2.2.2.2.1
theorem d_MD_crossesPoints_21 : decode prog_12_method_91_code 21 = .ok (.iload_n 3, 1) := F_MD_crossesPoints_0.2.2.2.2.2.2.2.2.2.2.2.2.2.2.2.1
theorem d_MD_crossesPoints_22 : decode prog_12_method_91_code 22 = .ok (.iconst 0, 1) := F_MD_crossesPoints_0.2.2.2.2.2.2.2.2.2.2.2.2.2.2.2.2.1
theorem d_MD_crossesPoints_23 : decode prog_12_method_91_code 23 = .ok (.invokevirtual 250, 3) := F_MD_crossesPoints_0.2.2.2.2.2.2.2.2.2.2.2.2.2.2.2.2.2.1
theorem d_MD_crossesPoints_26 : decode prog_12_method_91_code 26 = .ok (.aload_n 0, 1) := F_MD_crossesPoints_0.2.2.2.2.2.2.2.2.2.2.2.2.2.2.2.2.2.2.1
theorem d_MD_crossesPoints_27 : decode prog_12_method_91_code 27 = .ok (.iload_n 3, 1) := F_MD_crossesPoints_0.2.2.2.2.2.2.2.2.2.2.2.2.2.2.2.2.2.2.2.1
theorem d_MD_crossesPoints_28 : decode prog_12_method_91_code 28 = .ok (.iconst 1, 1) := F_MD_crossesPoints_0.2.2.2.2.2.2.2.2.2.2.2.2.2.2.2.2.2.2.2.2.1
theorem d_MD_crossesPoints_29 : decode prog_12_method_91_code 29 = .ok (.invokevirtual 250, 3) := F_MD_crossesPoints_0.2.2.2.2.2.2.2.2.2.2.2.2.2.2.2.2.2.2.2.2.2.1
theorem d_MD_crossesPoints_32 : decode prog_12_method_91_code 32 = .ok (.aload_n 0, 1) := F_MD_crossesPoints_0.2.2.2.2.2.2.2.2.2.2.2.2.2.2.2.2.2.2.2.2.2.2.1
theorem d_MD_crossesPoints_33 : decode prog_12_method_91_code 33 = .ok (.iload_n 3, 1) := F_MD_crossesPoints_0.2.2.2.2.2.2.2.2.2.2.2.2.2.2.2.2.2.2.2.2.2.2.2.1
theorem d_MD_crossesPoints_34 : decode prog_12_method_91_code 34 = .ok (.iconst 2, 1) := F_MD_crossesPoints_0.2.2.2.2.2.2.2.2.2.2.2.2.2.2.2.2.2.2.2.2.2.2.2.2.1
theorem d_MD_crossesPoints_35 : decode prog_12_method_91_code 35 = .ok (.invokevirtual 250, 3) := F_MD_crossesPoints_0.2.2.2.2.2.2.2.2.2.2.2.2.2.2.2.2.2.2.2.2.2.2.2.2.2.1
theorem d_MD_crossesPoints_38 : decode prog_12_method_91_code 38 = .ok (.invokevirtual 337, 3) := F_MD_crossesPoints_0.2.2.2.2.2.2.2.2.2.2.2.2.2.2.2.2.2.2.2.2.2.2.2.2.2.2.1
theorem d_MD_crossesPoints_41 : decode prog_12_method_91_code 41 = .ok (.return_, 1) := F_MD_crossesPoints_0.2.2.2.2.2.2.2.2.2.2.2.2.2.2.2.2.2.2.2.2.2.2.2.2.2.2.2.1
theorem F_MD_crosses_0 : Jvm.Free.DS.Facts prog_12_method_90_code 0 [(.aload_n 1, 1), (.iconst 0, 1), (.lload 4, 2), (.lload 12, 2), (.lmul, 1), (.lload 6, 2), (.lload 10, 2), (.lmul, 1), (.lsub, 1), (.lastore, 1), (.aload_n 1, 1), (.iconst 1, 1), (.lload 6, 2), (.lload 8, 2), (.lmul, 1), (.lload_n 2, 1), (.lload 12, 2), (.lmul, 1), (.lsub, 1), (.lastore, 1), (.aload_n 1, 1), (.iconst 2, 1), (.lload_n 2, 1), (.lload 10, 2), (.lmul, 1), (.lload 4, 2), (.lload 8, 2), (.lmul, 1), (.lsub, 1), (.lastore, 1), (.return_, 1)] := Jvm.Free.DS.facts 0 _ (by decide +kernel) (by decide +kernel)
theorem d_MD_crosses_0 : decode prog_12_method_90_code 0 = .ok (.aload_n 1, 1) := F_MD_crosses_0.1
theorem d_MD_crosses_1 : decode prog_12_method_90_code 1 = .ok (.iconst 0, 1) := F_MD_crosses_0.2.1
theorem d_MD_crosses_2 : decode prog_12_method_90_code 2 = .ok (.lload 4, 2) := F_MD_crosses_0.2.2.1
theorem d_MD_crosses_4 : decode prog_12_method_90_code 4 = .ok (.lload 12, 2) := F_MD_crosses_0.2.2.2.1
theorem d_MD_crosses_6 : decode prog_12_method_90_code 6 = .ok (.lmul, 1) := F_MD_crosses_0.2.2.2.2.1
theorem d_MD_crosses_7 : decode prog_12_method_90_code 7 = .ok (.lload 6, 2) := F_MD_crosses_0.2.2.2.2.2.1
theorem d_MD_crosses_9 : decode prog_12_method_90_code 9 = .ok (.lload 10, 2) := F_MD_crosses_0.2.2.2.2.2.2.1
theorem d_MD_crosses_11 : decode prog_12_method_90_code 11 = .ok (.lmul, 1) := F_MD_crosses_0.2.2.2.2.2.2.2.1
theorem d_MD_crosses_12 : decode prog_12_method_90_code 12 = .ok (.lsub, 1) := F_MD_crosses_0.2.2.2.2.2.2.2.2.1
theorem d_MD_crosses_13 : decode prog_12_method_90_code 13 = .ok (.lastore, 1) := F_MD_crosses_0.2.2.2.2.2.2.2.2.2.1
theorem d_MD_crosses_14 : decode prog_12_method_90_code 14 = .ok (.aload_n 1, 1) := F_MD_crosses_0.2.2.2.2.2.2.2.2.2.2.1
theorem d_MD_crosses_15 : decode prog_12_method_90_code 15 = .ok (.iconst 1, 1) := F_MD_crosses_0.2.2.2.2.2.2.2.2.2.2.2.1
theorem d_MD_crosses_16 : decode prog_12_method_90_code 16 = .ok (.lload 6, 2) := F_MD_crosses_0.2.2.2.2.2.2.2.2.2.2.2.2.1
theorem d_MD_crosses_18 : decode prog_12_method_90_code 18 = .ok (.lload 8, 2) := F_MD_crosses_0.2.2.2.2.2.2.2.2.2.2.2.2.2.1
theorem d_MD_crosses_20 : decode prog_12_method_90_code 20 = .ok (.lmul, 1) := F_MD_crosses_0.2.2.2.2.2.2.2.2.2.2.2.2.2.2.1
theorem d_MD_crosses_21 : decode prog_12_method_90_code 21 = .ok (.lload_n 2, 1) := F_MD_crosses_0.2.2.2.2.2.2.2.2.2.2.2.2.2.2.2.1
theorem d_MD_crosses_22 : decode prog_12_method_90_code 22 = .ok (.lload 12, 2) := F_MD_crosses_0.2.2.2.2.2.2.2.2.2.2.2.2.2.2.2.2.1
theorem d_MD_crosses_24 : decode prog_12_method_90_code 24 = .ok (.lmul, 1) := F_MD_crosses_0.2.2.2.2.2.2.2.2.2.2.2.2.2.2.2.2.2.1
theorem d_MD_crosses_25 : decode prog_12_method_90_code 25 = .ok (.lsub, 1) := F_MD_crosses_0.2.2.2.2.2.2.2.2.2.2.2.2.2.2.2.2.2.2.1
theorem d_MD_crosses_26 : decode prog_12_method_90_code 26 = .ok (.lastore, 1) := F_MD_crosses_0.2.2.2.2.2.2.2.2.2.2.2.2.2.2.2.2.2.2.2.1
theorem d_MD_crosses_27 : decode prog_12_method_90_code 27 = .ok (.aload_n 1, 1) := F_MD_crosses_0.2.2.2.2.2.2.2.2.2.2.2.2.2.2.2.2.2.2.2.2.1
theorem d_MD_crosses_28 : decode prog_12_method_90_code 28 = .ok (.iconst 2, 1) := F_MD_crosses_0.2.2.2.2.2.2.2.2.2.2.2.2.2.2.2.2.2.2.2.2.2.1
theorem d_MD_crosses_29 : decode prog_12_method_90_code 29 = .ok (.lload_n 2, 1) := F_MD_crosses_0.2.2.2.2.2.2.2.2.2.2.2.2.2.2.2.2.2.2.2.2.2.2.1
theorem d_MD_crosses_30 : decode prog_12_method_90_code 30 = .ok (.lload 10, 2) := F_MD_crosses_0.2.2.2.2.2.2.2.2.2.2.2.2.2.2.2.2.2.2.2.2.2.2.2.1
theorem d_MD_crosses_32 : decode prog_12_method_90_code 32 = .ok (.lmul, 1) := F_MD_crosses_0.2.2.2.2.2.2.2.2.2.2.2.2.2.2.2.2.2.2.2.2.2.2.2.2.1
theorem d_MD_crosses_33 : decode prog_12_method_90_code 33 = .ok (.lload 4, 2) := F_MD_crosses_0.2.2.2.2.2.2.2.2.2.2.2.2.2.2.2.2.2.2.2.2.2.2.2.2.2.1
theorem d_MD_crosses_35 : decode prog_12_method_90_code 35 = .ok (.lload 8, 2) := F_MD_crosses_0.2.2.2.2.2.2.2.2.2.2.2.2.2.2.2.2.2.2.2.2.2.2.2.2.2.2.1
theorem d_MD_crosses_37 : decode prog_12_method_90_code 37 = .ok (.lmul, 1) := F_MD_crosses_0.2.2.2.2.2.2.2.2.2.2.2.2.2.2.2.2.2.2.2.2.2.2.2.2.2.2.2.1
theorem d_MD_crosses_38 : decode prog_12_method_90_code 38 = .ok (.lsub, 1) := F_MD_crosses_0.2.2.2.2.2.2.2.2.2.2.2.2.2.2.2.2.2.2.2.2.2.2.2.2.2.2.2.2.1
theorem d_MD_crosses_39 : decode prog_12_method_90_code 39 = .ok (.lastore, 1) := F_MD_crosses_0.2.2.2.2.2.2.2.2.2.2.2.2.2.2.2.2.2.2.2.2.2.2.2.2.2.2.2.2.2.1
theorem d_MD_crosses_40 : decode prog_12_method_90_code 40 = .ok (.return_, 1) := F_MD_crosses_0.2.2.2.2.2.2.2.2.2.2.2.2.2.2.2.2.2.2.2.2.2.2.2.2.2.2.2.2.2.2.1
theorem F_MD_isNone_0 : Jvm.Free.DS.Facts prog_12_method_92_code 0 [(.aload_n 0, 1), (.iconst 0, 1), (.laload, 1), (.lconst 0, 1), (.lcmp, 1), (.ifCond .ne (23), 3), (.aload_n 0, 1), (.iconst 1, 1), (.laload, 1), (.lconst 0, 1), (.lcmp, 1), (.ifCond .ne (15), 3), (.aload_n 0, 1), (.iconst 2, 1), (.laload, 1), (.lconst 0, 1), (.lcmp, 1), (.ifCond .ne (7), 3), (.iconst 1, 1), (.goto (4), 3), (.iconst 0, 1), (.ireturn, 1)] := Jvm.Free.DS.facts 0 _ (by decide +kernel) (by decide +kernel)
theorem d_MD_isNone_0 : decode prog_12_method_92_code 0 = .ok (.aload_n 0, 1) := F_MD_isNone_0.1
theorem d_MD_isNone_1 : decode prog_12_method_92_code 1 = .ok (.iconst 0, 1) := F_MD_isNone_0.2.1
theorem d_MD_isNone_2 : decode prog_12_method_92_code 2 = .ok (.laload, 1) := F_MD_isNone_0.2.2.1
theorem d_MD_isNone_3 : decode prog_12_method_92_code 3 = .ok (.lconst 0, 1) := F_MD_isNone_0.2.2.2.1
theorem d_MD_isNone_4 : decode prog_12_method_92_code 4 = .ok (.lcmp, 1) := F_MD_isNone_0.2.2.2.2.1
theorem d_MD_isNone_5 : decode prog_12_method_92_code 5 = .ok (.ifCond .ne (23), 3) := F_MD_isNone_0.2.2.2.2.2.1
theorem d_MD_isNone_8 : decode prog_12_method_92_code 8 = .ok (.aload_n 0, 1) := F_MD_isNone_0.2.2.2.2.2.2.1
theorem d_MD_isNone_9 : decode prog_12_method_92_code 9 = .ok (.iconst 1, 1) := F_MD_isNone_0.2.2.2.2.2.2.2.1
theorem d_MD_isNone_10 : decode prog_12_method_92_code 10 = .ok (.laload, 1) := F_MD_isNone_0.2.2.2.2.2.2.2.2.1
theorem d_MD_isNone_11 : decode prog_12_method_92_code 11 = .ok (.lconst 0, 1) := F_MD_isNone_0.2.2.2.2.2.2.2.2.2.1
theorem d_MD_isNone_12 : decode prog_12_method_92_code 12 = .ok (.lcmp, 1) := F_MD_isNone_0.2.2.2.2.2.2.2.2.2.2.1
theorem d_MD_isNone_13 : decode prog_12_method_92_code 13 = .ok (.ifCond .ne (15), 3) := F_MD_isNone_0.2.2.2.2.2.2.2.2.2.2.2.1
theorem d_MD_isNone_16 : decode prog_12_method_92_code 16 = .ok (.aload_n 0, 1) := F_MD_isNone_0.2.2.2.2.2.2.2.2.2.2.2.2.1
theorem d_MD_isNone_17 : decode prog_12_method_92_code 17 = .ok (.iconst 2, 1) := F_MD_isNone_0.2.2.2.2.2.2.2.2.2.2.2.2.2.1
theorem d_MD_isNone_18 : decode prog_12_method_92_code 18 = .ok (.laload, 1) := F_MD_isNone_0.2.2.2.2.2.2.2.2.2.2.2.2.2.2.1
theorem d_MD_isNone_19 : decode prog_12_method_92_code 19 = .ok (.lconst 0, 1) := F_MD_isNone_0.2.2.2.2.2.2.2.2.2.2.2.2.2.2.2.1
theorem d_MD_isNone_20 : decode prog_12_method_92_code 20 = .ok (.lcmp, 1) := F_MD_isNone_0.2.2.2.2.2.2.2.2.2.2.2.2.2.2.2.2.1
theorem d_MD_isNone_21 : decode prog_12_method_92_code 21 = .ok (.ifCond .ne (7), 3) := F_MD_isNone_0.2.2.2.2.2.2.2.2.2.2.2.2.2.2.2.2.2.1
theorem d_MD_isNone_24 : decode prog_12_method_92_code 24 = .ok (.iconst 1, 1) := F_MD_isNone_0.2.2.2.2.2.2.2.2.2.2.2.2.2.2.2.2.2.2.1
theorem d_MD_isNone_25 : decode prog_12_method_92_code 25 = .ok (.goto (4), 3) := F_MD_isNone_0.2.2.2.2.2.2.2.2.2.2.2.2.2.2.2.2.2.2.2.1
theorem d_MD_isNone_28 : decode prog_12_method_92_code 28 = .ok (.iconst 0, 1) := F_MD_isNone_0.2.2.2.2.2.2.2.2.2.2.2.2.2.2.2.2.2.2.2.2.1
theorem d_MD_isNone_29 : decode prog_12_method_92_code 29 = .ok (.ireturn, 1) := F_MD_isNone_0.2.2.2.2.2.2.2.2.2.2.2.2.2.2.2.2.2.2.2.2.2.1
theorem F_MD_inLine_0 : Jvm.Free.DS.Facts prog_12_method_95_code 0 [(.aload_n 0, 1), (.iconst 0, 1), (.putfield 74, 3), (.aload_n 0, 1), (.iload_n 1, 1), (.invokevirtual 247, 3), (.ifCond .eq (19), 3), (.aload_n 0, 1), (.iload_n 2, 1), (.invokevirtual 247, 3), (.ifCond .eq (11), 3), (.aload_n 0, 1), (.iload_n 3, 1), (.invokevirtual 247, 3), (.ifCond .ne (5), 3), (.iconst (-1), 1), (.ireturn, 1), (.aload_n 0, 1), (.aload_n 0, 1), (.getfield 50, 3), (.iload_n 1, 1), (.iload_n 2, 1), (.invokevirtual 341, 3), (.aload_n 0, 1), (.aload_n 0, 1), (.getfield 50, 3), (.iload_n 3, 1), (.invokevirtual 349, 3), (.ifCond .eq (7), 3), (.iconst 1, 1), (.goto (4), 3), (.iconst 0, 1)] := Jvm.Free.DS.facts 0 _ (by decide +kernel) (by decide +kernel)
theorem d_MD_inLine_0 : decode prog_12_method_95_code 0 = .ok (.aload_n 0, 1) := F_MD_inLine_0.1
theorem d_MD_inLine_1 : decode prog_12_method_95_code 1 = .ok (.iconst 0, 1) := F_MD_inLine_0.2.1
theorem d_MD_inLine_2 : decode prog_12_method_95_code 2 = .ok (.putfield 74, 3) := F_MD_inLine_0.2.2.1
theorem d_MD_inLine_5 : decode prog_12_method_95_code 5 = .ok (.aload_n 0, 1) := F_MD_inLine_0.2.2.2.1
theorem d_MD_inLine_6 : decode prog_12_method_95_code 6 = .ok (.iload_n 1, 1) := F_MD_inLine_0.2.2.2.2.1
theorem d_MD_inLine_7 : decode prog_12_method_95_code 7 = .ok (.invokevirtual 247, 3) := F_MD_inLine_0.2.2.2.2.2.1
theorem d_MD_inLine_10 : decode prog_12_method_95_code 10 = .ok (.ifCond .eq (19), 3) := F_MD_inLine_0.2.2.2.2.2.2.1
theorem d_MD_inLine_13 : decode prog_12_method_95_code 13 = .ok (.aload_n 0, 1) := F_MD_inLine_0.2.2.2.2.2.2.2.1
theorem d_MD_inLine_14 : decode prog_12_method_95_code 14 = .ok (.iload_n 2, 1) := F_MD_inLine_0.2.2.2.2.2.2.2.2.1
theorem d_MD_inLine_15 : decode prog_12_method_95_code 15 = .ok (.invokevirtual 247, 3) := F_MD_inLine_0.2.2.2.2.2.2.2.2.2.1
theorem d_MD_inLine_18 : decode prog_12_method_95_code 18 = .ok (.ifCond .eq (11), 3) := F_MD_inLine_0.2.2.2.2.2.2.2.2.2.2.1
theorem d_MD_inLine_21 : decode prog_12_method_95_code 21 = .ok (.aload_n 0, 1) := F_MD_inLine_0.2.2.2.2.2.2.2.2.2.2.2.1
theorem d_MD_inLine_22 : decode prog_12_method_95_code 22 = .ok (.iload_n 3, 1) := F_MD_inLine_0.2.2.2.2.2.2.2.2.2.2.2.2.1
theorem d_MD_inLine_23 : decode prog_12_method_95_code 23 = .ok (.invokevirtual 247, 3) := F_MD_inLine_0.2.2.2.2.2.2.2.2.2.2.2.2.2.1
theorem d_MD_inLine_26 : decode prog_12_method_95_code 26 = .ok (.ifCond .ne (5), 3) := F_MD_inLine_0.2.2.2.2.2.2.2.2.2.2.2.2.2.2.1
theorem d_MD_inLine_29 : decode prog_12_method_95_code 29 = .ok (.iconst (-1), 1) := F_MD_inLine_0.2.2.2.2.2.2.2.2.2.2.2.2.2.2.2.1
theorem d_MD_inLine_30 : decode prog_12_method_95_code 30 = .ok (.ireturn, 1) := F_MD_inLine_0.2.2.2.2.2.2.2.2.2.2.2.2.2.2.2.2.1
theorem d_MD_inLine_31 : decode prog_12_method_95_code 31 = .ok (.aload_n 0, 1) := F_MD_inLine_0.2.2.2.2.2.2.2.2.2.2.2.2.2.2.2.2.2.1
theorem d_MD_inLine_32 : decode prog_12_method_95_code 32 = .ok (.aload_n 0, 1) := F_MD_inLine_0.2.2.2.2.2.2.2.2.2.2.2.2.2.2.2.2.2.2.1
theorem d_MD_inLine_33 : decode prog_12_method_95_code 33 = .ok (.getfield 50, 3) := F_MD_inLine_0.2.2.2.2.2.2.2.2.2.2.2.2.2.2.2.2.2.2.2.1
theorem d_MD_inLine_36 : decode prog_12_method_95_code 36 = .ok (.iload_n 1, 1) := F_MD_inLine_0.2.2.2.2.2.2.2.2.2.2.2.2.2.2.2.2.2.2.2.2.1
theorem d_MD_inLine_37 : decode prog_12_method_95_code 37 = .ok (.iload_n 2, 1) := F_MD_inLine_0.2.2.2.2.2.2.2.2.2.2.2.2.2.2.2.2.2.2.2.2.2.1
theorem d_MD_inLine_38 : decode prog_12_method_95_code 38 = .ok (.invokevirtual 341, 3) := F_MD_inLine_0.2.2.2.2.2.2.2.2.2.2.2.2.2.2.2.2.2.2.2.2.2.2.1
theorem d_MD_inLine_41 : decode prog_12_method_95_code 41 = .ok (.aload_n 0, 1) := F_MD_inLine_0.2.2.2.2.2.2.2.2.2.2.2.2.2.2.2.2.2.2.2.2.2.2.2.1
theorem d_MD_inLine_42 : decode prog_12_method_95_code 42 = .ok (.aload_n 0, 1) := F_MD_inLine_0.2.2.2.2.2.2.2.2.2.2.2.2.2.2.2.2.2.2.2.2.2.2.2.2.1
theorem d_MD_inLine_43 : decode prog_12_method_95_code 43 = .ok (.getfield 50, 3) := F_MD_inLine_0.2.2.2.2.2.2.2.2.2.2.2.2.2.2.2.2.2.2.2.2.2.2.2.2.2.1
theorem d_MD_inLine_46 : decode prog_12_method_95_code 46 = .ok (.iload_n 3, 1) := F_MD_inLine_0.2.2.2.2.2.2.2.2.2.2.2.2.2.2.2.2.2.2.2.2.2.2.2.2.2.2.1
theorem d_MD_inLine_47 : decode prog_12_method_95_code 47 = .ok (.invokevirtual 349, 3) := F_MD_inLine_0.2.2.2.2.2.2.2.2.2.2.2.2.2.2.2.2.2.2.2.2.2.2.2.2.2.2.2.1
theorem d_MD_inLine_50 : decode prog_12_method_95_code 50 = .ok (.ifCond .eq (7), 3) := F_MD_inLine_0.2.2.2.2.2.2.2.2.2.2.2.2.2.2.2.2.2.2.2.2.2.2.2.2.2.2.2.2.1
theorem d_MD_inLine_53 : decode prog_12_method_95_code 53 = .ok (.iconst 1, 1) := F_MD_inLine_0.2.2.2.2.2.2.2.2.2.2.2.2.2.2.2.2.2.2.2.2.2.2.2.2.2.2.2.2.2.1
theorem d_MD_inLine_54 : decode prog_12_method_95_code 54 = .ok (.goto (4), 3) := F_MD_inLine_0.2.2.2.2.2.2.2.2.2.2.2.2.2.2.2.2.2.2.2.2.2.2.2.2.2.2.2.2.2.2.1
theorem d_MD_inLine_57 : decode prog_12_method_95_code 57 = .ok (.iconst 0, 1) := F_MD_inLine_0.2.2.2.2.2.2.2.2.2.2.2.2.2.2.2.2.2.2.2.2.2.2.2.2.2.2.2.2.2.2.2.1
theorem F_MD_inLine_58 : Jvm.Free.DS.Facts prog_12_method_95_code 58 [(.ireturn, 1)] := Jvm.Free.DS.facts 58 _ (by decide +kernel) (by decide +kernel)
theorem d_MD_inLine_58 : decode prog_12_method_95_code 58 = .ok (.ireturn, 1) := F_MD_inLine_58.1
theorem F_MD_isOn_0 : Jvm.Free.DS.Facts prog_12_method_94_code 0 [(.aload_n 1, 1), (.iconst 0, 1), (.laload, 1), (.aload_n 0, 1), (.iload_n 2, 1), (.iconst 0, 1), (.invokevirtual 250, 3), (.lmul, 1), (.aload_n 1, 1), (.iconst 1, 1), (.laload, 1), (.aload_n 0, 1), (.iload_n 2, 1), (.iconst 1, 1), (.invokevirtual 250, 3), (.lmul, 1), (.ladd, 1), (.aload_n 1, 1), (.iconst 2, 1), (.laload, 1), (.aload_n 0, 1), (.iload_n 2, 1), (.iconst 2, 1), (.invokevirtual 250, 3), (.lmul, 1), (.ladd, 1), (.lconst 0, 1), (.lcmp, 1), (.ifCond .ne (7), 3), (.iconst 1, 1), (.goto (4), 3), (.iconst 0, 1)] := Jvm.Free.DS.facts 0 _ (by decide +kernel) (by decide +kernel)
theorem d_MD_isOn_0 : decode prog_12_method_94_code 0 = .ok (.aload_n 1, 1) := F_MD_isOn_0.1
theorem d_MD_isOn_1 : decode prog_12_method_94_code 1 = .ok (.iconst 0, 1) := F_MD_isOn_0.2.1
theorem d_MD_isOn_2 : decode prog_12_method_94_code 2 = .ok (.laload, 1) := F_MD_isOn_0.2.2.1
theorem d_MD_isOn_3 : decode prog_12_method_94_code 3 = .ok (.aload_n 0, 1) := F_MD_isOn_0.2.2.2.1
theorem d_MD_isOn_4 : decode prog_12_method_94_code 4 = .ok (.iload_n 2, 1) := F_MD_isOn_0.2.2.2.2.1
theorem d_MD_isOn_5 : decode prog_12_method_94_code 5 = .ok (.iconst 0, 1) := F_MD_isOn_0.2.2.2.2.2.1
theorem d_MD_isOn_6 : decode prog_12_method_94_code 6 = .ok (.invokevirtual 250, 3) := F_MD_isOn_0.2.2.2.2.2.2.1
theorem d_MD_isOn_9 : decode prog_12_method_94_code 9 = .ok (.lmul, 1) := F_MD_isOn_0.2.2.2.2.2.2.2.1
theorem d_MD_isOn_10 : decode prog_12_method_94_code 10 = .ok (.aload_n 1, 1) := F_MD_isOn_0.2.2.2.2.2.2.2.2.1
theorem d_MD_isOn_11 : decode prog_12_method_94_code 11 = .ok (.iconst 1, 1) := F_MD_isOn_0.2.2.2.2.2.2.2.2.2.1
theorem d_MD_isOn_12 : decode prog_12_method_94_code 12 = .ok (.laload, 1) := F_MD_isOn_0.2.2.2.2.2.2.2.2.2.2.1
theorem d_MD_isOn_13 : decode prog_12_method_94_code 13 = .ok (.aload_n 0, 1) := F_MD_isOn_0.2.2.2.2.2.2.2.2.2.2.2.1
theorem d_MD_isOn_14 : decode prog_12_method_94_code 14 = .ok (.iload_n 2, 1) := F_MD_isOn_0.2.2.2.2.2.2.2.2.2.2.2.2.1
theorem d_MD_isOn_15 : decode prog_12_method_94_code 15 = .ok (.iconst 1, 1) := F_MD_isOn_0.2.2.2.2.2.2.2.2.2.2.2.2.2.1
theorem d_MD_isOn_16 : decode prog_12_method_94_code 16 = .ok (.invokevirtual 250, 3) := F_MD_isOn_0.2.2.2.2.2.2.2.2.2.2.2.2.2.2.1
theorem d_MD_isOn_19 : decode prog_12_method_94_code 19 = .ok (.lmul, 1) := F_MD_isOn_0.2.2.2.2.2.2.2.2.2.2.2.2.2.2.2.1
theorem d_MD_isOn_20 : decode prog_12_method_94_code 20 = .ok (.ladd, 1) := F_MD_isOn_0.2.2.2.2.2.2.2.2.2.2.2.2.2.2.2.2.1
theorem d_MD_isOn_21 : decode prog_12_method_94_code 21 = .ok (.aload_n 1, 1) := F_MD_isOn_0.2.2.2.2.2.2.2.2.2.2.2.2.2.2.2.2.2.1
theorem d_MD_isOn_22 : decode prog_12_method_94_code 22 = .ok (.iconst 2, 1) := F_MD_isOn_0.2.2.2.2.2.2.2.2.2.2.2.2.2.2.2.2.2.2.1
theorem d_MD_isOn_23 : decode prog_12_method_94_code 23 = .ok (.laload, 1) := F_MD_isOn_0.2.2.2.2.2.2.2.2.2.2.2.2.2.2.2.2.2.2.2.1
theorem d_MD_isOn_24 : decode prog_12_method_94_code 24 = .ok (.aload_n 0, 1) := F_MD_isOn_0.2.2.2.2.2.2.2.2.2.2.2.2.2.2.2.2.2.2.2.2.1
theorem d_MD_isOn_25 : decode prog_12_method_94_code 25 = .ok (.iload_n 2, 1) := F_MD_isOn_0.2.2.2.2.2.2.2.2.2.2.2.2.2.2.2.2.2.2.2.2.2.1
theorem d_MD_isOn_26 : decode prog_12_method_94_code 26 = .ok (.iconst 2, 1) := F_MD_isOn_0.2.2.2.2.2.2.2.2.2.2.2.2.2.2.2.2.2.2.2.2.2.2.1
theorem d_MD_isOn_27 : decode prog_12_method_94_code 27 = .ok (.invokevirtual 250, 3) := F_MD_isOn_0.2.2.2.2.2.2.2.2.2.2.2.2.2.2.2.2.2.2.2.2.2.2.2.1
theorem d_MD_isOn_30 : decode prog_12_method_94_code 30 = .ok (.lmul, 1) := F_MD_isOn_0.2.2.2.2.2.2.2.2.2.2.2.2.2.2.2.2.2.2.2.2.2.2.2.2.1
theorem d_MD_isOn_31 : decode prog_12_method_94_code 31 = .ok (.ladd, 1) := F_MD_isOn_0.2.2.2.2.2.2.2.2.2.2.2.2.2.2.2.2.2.2.2.2.2.2.2.2.2.1
theorem d_MD_isOn_32 : decode prog_12_method_94_code 32 = .ok (.lconst 0, 1) := F_MD_isOn_0.2.2.2.2.2.2.2.2.2.2.2.2.2.2.2.2.2.2.2.2.2.2.2.2.2.2.1
theorem d_MD_isOn_33 : decode prog_12_method_94_code 33 = .ok (.lcmp, 1) := F_MD_isOn_0.2.2.2.2.2.2.2.2.2.2.2.2.2.2.2.2.2.2.2.2.2.2.2.2.2.2.2.1
theorem d_MD_isOn_34 : decode prog_12_method_94_code 34 = .ok (.ifCond .ne (7), 3) := F_MD_isOn_0.2.2.2.2.2.2.2.2.2.2.2.2.2.2.2.2.2.2.2.2.2.2.2.2.2.2.2.2.1
theorem d_MD_isOn_37 : decode prog_12_method_94_code 37 = .ok (.iconst 1, 1) := F_MD_isOn_0.2.2.2.2.2.2.2.2.2.2.2.2.2.2.2.2.2.2.2.2.2.2.2.2.2.2.2.2.2.1
theorem d_MD_isOn_38 : decode prog_12_method_94_code 38 = .ok (.goto (4), 3) := F_MD_isOn_0.2.2.2.2.2.2.2.2.2.2.2.2.2.2.2.2.2.2.2.2.2.2.2.2.2.2.2.2.2.2.1
theorem d_MD_isOn_41 : decode prog_12_method_94_code 41 = .ok (.iconst 0, 1) := F_MD_isOn_0.2.2.2.2.2.2.2.2.2.2.2.2.2.2.2.2.2.2.2.2.2.2.2.2.2.2.2.2.2.2.2.1
theorem F_MD_isOn_42 : Jvm.Free.DS.Facts prog_12_method_94_code 42 [(.ireturn, 1)] := Jvm.Free.DS.facts 42 _ (by decide +kernel) (by decide +kernel)
theorem d_MD_isOn_42 : decode prog_12_method_94_code 42 = .ok (.ireturn, 1) := F_MD_isOn_42.1
theorem F_MD_meet_0 : Jvm.Free.DS.Facts prog_12_method_96_code 0 [(.aload_n 0, 1), (.iconst 0, 1), (.putfield 74, 3), (.aload_n 0, 1), (.iload_n 1, 1), (.invokevirtual 247, 3), (.ifCond .eq (36), 3), (.aload_n 0, 1), (.iload_n 2, 1), (.invokevirtual 247, 3), (.ifCond .eq (28), 3), (.aload_n 0, 1), (.iload_n 3, 1), (.invokevirtual 247, 3), (.ifCond .eq (20), 3), (.aload_n 0, 1), (.iload 4, 2), (.invokevirtual 247, 3), (.ifCond .eq (11), 3), (.iload 5, 2), (.invokestatic 244, 3), (.ifCond .ne (7), 3), (.ldc2_w 307, 3), (.lreturn, 1), (.aload_n 0, 1), (.aload_n 0, 1), (.getfield 50, 3), (.iload_n 1, 1), (.iload_n 2, 1), (.invokevirtual 341, 3), (.aload_n 0, 1), (.aload_n 0, 1)] := Jvm.Free.DS.facts 0 _ (by decide +kernel) (by decide +kernel)
theorem d_MD_meet_0 : decode prog_12_method_96_code 0 = .ok (.aload_n 0, 1) := F_MD_meet_0.1
theorem d_MD_meet_1 : decode prog_12_method_96_code 1 = .ok (.iconst 0, 1) := F_MD_meet_0.2.1
theorem d_MD_meet_2 : decode prog_12_method_96_code 2 = .ok (.putfield 74, 3) := F_MD_meet_0.2.2.1
theorem d_MD_meet_5 : decode prog_12_method_96_code 5 = .ok (.aload_n 0, 1) := F_MD_meet_0.2.2.2.1
theorem d_MD_meet_6 : decode prog_12_method_96_code 6 = .ok (.iload_n 1, 1) := F_MD_meet_0.2.2.2.2.1
theorem d_MD_meet_7 : decode prog_12_method_96_code 7 = .ok (.invokevirtual 247, 3) := F_MD_meet_0.2.2.2.2.2.1
theorem d_MD_meet_10 : decode prog_12_method_96_code 10 = .ok (.ifCond .eq (36), 3) := F_MD_meet_0.2.2.2.2.2.2.1
theorem d_MD_meet_13 : decode prog_12_method_96_code 13 = .ok (.aload_n 0, 1) := F_MD_meet_0.2.2.2.2.2.2.2.1
theorem d_MD_meet_14 : decode prog_12_method_96_code 14 = .ok (.iload_n 2, 1) := F_MD_meet_0.2.2.2.2.2.2.2.2.1
theorem d_MD_meet_15 : decode prog_12_method_96_code 15 = .ok (.invokevirtual 247, 3) := F_MD_meet_0.2.2.2.2.2.2.2.2.2.1
theorem d_MD_meet_18 : decode prog_12_method_96_code 18 = .ok (.ifCond .eq (28), 3) := F_MD_meet_0.2.2.2.2.2.2.2.2.2.2.1
theorem d_MD_meet_21 : decode prog_12_method_96_code 21 = .ok (.aload_n 0, 1) := F_MD_meet_0.2.2.2.2.2.2.2.2.2.2.2.1
theorem d_MD_meet_22 : decode prog_12_method_96_code 22 = .ok (.iload_n 3, 1) := F_MD_meet_0.2.2.2.2.2.2.2.2.2.2.2.2.1
theorem d_MD_meet_23 : decode prog_12_method_96_code 23 = .ok (.invokevirtual 247, 3) := F_MD_meet_0.2.2.2.2.2.2.2.2.2.2.2.2.2.1
theorem d_MD_meet_26 : decode prog_12_method_96_code 26 = .ok (.ifCond .eq (20), 3) := F_MD_meet_0.2.2.2.2.2.2.2.2.2.2.2.2.2.2.1
theorem d_MD_meet_29 : decode prog_12_method_96_code 29 = .ok (.aload_n 0, 1) := F_MD_meet_0.2.2.2.2.2.2.2.2.2.2.2.2.2.2.2.1
theorem d_MD_meet_30 : decode prog_12_method_96_code 30 = .ok (.iload 4, 2) := F_MD_meet_0.2.2.2.2.2.2.2.2.2.2.2.2.2.2.2.2.1
theorem d_MD_meet_32 : decode prog_12_method_96_code 32 = .ok (.invokevirtual 247, 3) := F_MD_meet_0.2.2.2.2.2.2.2.2.2.2.2.2.2.2.2.2.2.1
theorem d_MD_meet_35 : decode prog_12_method_96_code 35 = .ok (.ifCond .eq (11), 3) := F_MD_meet_0.2.2.2.2.2.2.2.2.2.2.2.2.2.2.2.2.2.2.1
theorem d_MD_meet_38 : decode prog_12_method_96_code 38 = .ok (.iload 5, 2) := F_MD_meet_0.2.2.2.2.2.2.2.2.2.2.2.2.2.2.2.2.2.2.2.1
theorem d_MD_meet_40 : decode prog_12_method_96_code 40 = .ok (.invokestatic 244, 3) := F_MD_meet_0.2.2.2.2.2.2.2.2.2.2.2.2.2.2.2.2.2.2.2.2.1
theorem d_MD_meet_43 : decode prog_12_method_96_code 43 = .ok (.ifCond .ne (7), 3) := F_MD_meet_0.2.2.2.2.2.2.2.2.2.2.2.2.2.2.2.2.2.2.2.2.2.1
theorem d_MD_meet_46 : decode prog_12_method_96_code 46 = .ok (.ldc2_w 307, 3) := F_MD_meet_0.2.2.2.2.2.2.2.2.2.2.2.2.2.2.2.2.2.2.2.2.2.2.1
theorem d_MD_meet_49 : decode prog_12_method_96_code 49 = .ok (.lreturn, 1) := F_MD_meet_0.2.2.2.2.2.2.2.2.2.2.2.2.2.2.2.2.2.2.2.2.2.2.2.1
theorem d_MD_meet_50 : decode prog_12_method_96_code 50 = .ok (.aload_n 0, 1) := F_MD_meet_0.2.2.2.2.2.2.2.2.2.2.2.2.2.2.2.2.2.2.2.2.2.2.2.2.1
theorem d_MD_meet_51 : decode prog_12_method_96_code 51 = .ok (.aload_n 0, 1) := F_MD_meet_0.2.2.2.2.2.2.2.2.2.2.2.2.2.2.2.2.2.2.2.2.2.2.2.2.2.1
theorem d_MD_meet_52 : decode prog_12_method_96_code 52 = .ok (.getfield 50, 3) := F_MD_meet_0.2.2.2.2.2.2.2.2.2.2.2.2.2.2.2.2.2.2.2.2.2.2.2.2.2.2.1
theorem d_MD_meet_55 : decode prog_12_method_96_code 55 = .ok (.iload_n 1, 1) := F_MD_meet_0.2.2.2.2.2.2.2.2.2.2.2.2.2.2.2.2.2.2.2.2.2.2.2.2.2.2.2.1
theorem d_MD_meet_56 : decode prog_12_method_96_code 56 = .ok (.iload_n 2, 1) := F_MD_meet_0.2.2.2.2.2.2.2.2.2.2.2.2.2.2.2.2.2.2.2.2.2.2.2.2.2.2.2.2.1
theorem d_MD_meet_57 : decode prog_12_method_96_code 57 = .ok (.invokevirtual 341, 3) := F_MD_meet_0.2.2.2.2.2.2.2.2.2.2.2.2.2.2.2.2.2.2.2.2.2.2.2.2.2.2.2.2.2.1
theorem d_MD_meet_60 : decode prog_12_method_96_code 60 = .ok (.aload_n 0, 1) := F_MD_meet_0.2.2.2.2.2.2.2.2.2.2.2.2.2.2.2.2.2.2.2.2.2.2.2.2.2.2.2.2.2.2.1
theorem d_MD_meet_61 : decode prog_12_method_96_code 61 = .ok (.aload_n 0, 1) := F_MD_meet_0.2.2.2.2.2.2.2.2.2.2.2.2.2.2.2.2.2.2.2.2.2.2.2.2.2.2.2.2.2.2.2.1
theorem F_MD_meet_62 : Jvm.Free.DS.Facts prog_12_method_96_code 62 [(.getfield 53, 3), (.iload_n 3, 1), (.iload 4, 2), (.invokevirtual 341, 3), (.aload_n 0, 1), (.getfield 50, 3), (.invokestatic 345, 3), (.ifCond .ne (13), 3), (.aload_n 0, 1), (.getfield 53, 3), (.invokestatic 345, 3), (.ifCond .eq (7), 3), (.ldc2_w 309, 3), (.lreturn, 1), (.aload_n 0, 1), (.getfield 50, 3), (.invokestatic 220, 3), (.aload_n 0, 1), (.getfield 53, 3), (.invokestatic 220, 3), (.aload_n 0, 1), (.getfield 50, 3), (.iconst 0, 1), (.laload, 1), (.lstore 6, 2), (.aload_n 0, 1), (.getfield 50, 3), (.iconst 1, 1), (.laload, 1), (.lstore 8, 2), (.aload_n 0, 1), (.getfield 50, 3)] := Jvm.Free.DS.facts 62 _ (by decide +kernel) (by decide +kernel)
theorem d_MD_meet_62 : decode prog_12_method_96_code 62 = .ok (.getfield 53, 3) := F_MD_meet_62.1
theorem d_MD_meet_65 : decode prog_12_method_96_code 65 = .ok (.iload_n 3, 1) := F_MD_meet_62.2.1
theorem d_MD_meet_66 : decode prog_12_method_96_code 66 = .ok (.iload 4, 2) := F_MD_meet_62.2.2.1
theorem d_MD_meet_68 : decode prog_12_method_96_code 68 = .ok (.invokevirtual 341, 3) := F_MD_meet_62.2.2.2.1
theorem d_MD_meet_71 : decode prog_12_method_96_code 71 = .ok (.aload_n 0, 1) := F_MD_meet_62.2.2.2.2.1
theorem d_MD_meet_72 : decode prog_12_method_96_code 72 = .ok (.getfield 50, 3) := F_MD_meet_62.2.2.2.2.2.1
theorem d_MD_meet_75 : decode prog_12_method_96_code 75 = .ok (.invokestatic 345, 3) := F_MD_meet_62.2.2.2.2.2.2.1
theorem d_MD_meet_78 : decode prog_12_method_96_code 78 = .ok (.ifCond .ne (13), 3) := F_MD_meet_62.2.2.2.2.2.2.2.1
theorem d_MD_meet_81 : decode prog_12_method_96_code 81 = .ok (.aload_n 0, 1) := F_MD_meet_62.2.2.2.2.2.2.2.2.1
theorem d_MD_meet_82 : decode prog_12_method_96_code 82 = .ok (.getfield 53, 3) := F_MD_meet_62.2.2.2.2.2.2.2.2.2.1
theorem d_MD_meet_85 : decode prog_12_method_96_code 85 = .ok (.invokestatic 345, 3) := F_MD_meet_62.2.2.2.2.2.2.2.2.2.2.1
theorem d_MD_meet_88 : decode prog_12_method_96_code 88 = .ok (.ifCond .eq (7), 3) := F_MD_meet_62.2.2.2.2.2.2.2.2.2.2.2.1
theorem d_MD_meet_91 : decode prog_12_method_96_code 91 = .ok (.ldc2_w 309, 3) := F_MD_meet_62.2.2.2.2.2.2.2.2.2.2.2.2.1
theorem d_MD_meet_94 : decode prog_12_method_96_code 94 = .ok (.lreturn, 1) := F_MD_meet_62.2.2.2.2.2.2.2.2.2.2.2.2.2.1
theorem d_MD_meet_95 : decode prog_12_method_96_code 95 = .ok (.aload_n 0, 1) := F_MD_meet_62.2.2.2.2.2.2.2.2.2.2.2.2.2.2.1
theorem d_MD_meet_96 : decode prog_12_method_96_code 96 = .ok (.getfield 50, 3) := F_MD_meet_62.2.2.2.2.2.2.2.2.2.2.2.2.2.2.2.1
theorem d_MD_meet_99 : decode prog_12_method_96_code 99 = .ok (.invokestatic 220, 3) := F_MD_meet_62.2.2.2.2.2.2.2.2.2.2.2.2.2.2.2.2.1
theorem d_MD_meet_102 : decode prog_12_method_96_code 102 = .ok (.aload_n 0, 1) := F_MD_meet_62.2.2.2.2.2.2.2.2.2.2.2.2.2.2.2.2.2.1
theorem d_MD_meet_103 : decode prog_12_method_96_code 103 = .ok (.getfield 53, 3) := F_MD_meet_62.2.2.2.2.2.2.2.2.2.2.2.2.2.2.2.2.2.2.1
theorem d_MD_meet_106 : decode prog_12_method_96_code 106 = .ok (.invokestatic 220, 3) := F_MD_meet_62.2.2.2.2.2.2.2.2.2.2.2.2.2.2.2.2.2.2.2.1
theorem d_MD_meet_109 : decode prog_12_method_96_code 109 = .ok (.aload_n 0, 1) := F_MD_meet_62.2.2.2.2.2.2.2.2.2.2.2.2.2.2.2.2.2.2.2.2.1
theorem d_MD_meet_110 : decode prog_12_method_96_code 110 = .ok (.getfield 50, 3) := F_MD_meet_62.2.2.2.2.2.2.2.2.2.2.2.2.2.2.2.2.2.2.2.2.2.1
theorem d_MD_meet_113 : decode prog_12_method_96_code 113 = .ok (.iconst 0, 1) := F_MD_meet_62.2.2.2.2.2.2.2.2.2.2.2.2.2.2.2.2.2.2.2.2.2.2.1
theorem d_MD_meet_114 : decode prog_12_method_96_code 114 = .ok (.laload, 1) := F_MD_meet_62.2.2.2.2.2.2.2.2.2.2.2.2.2.2.2.2.2.2.2.2.2.2.2.1
theorem d_MD_meet_115 : decode prog_12_method_96_code 115 = .ok (.lstore 6, 2) := F_MD_meet_62.2.2.2.2.2.2.2.2.2.2.2.2.2.2.2.2.2.2.2.2.2.2.2.2.1
theorem d_MD_meet_117 : decode prog_12_method_96_code 117 = .ok (.aload_n 0, 1) := F_MD_meet_62.2.2.2.2.2.2.2.2.2.2.2.2.2.2.2.2.2.2.2.2.2.2.2.2.2.1
theorem d_MD_meet_118 : decode prog_12_method_96_code 118 = .ok (.getfield 50, 3) := F_MD_meet_62.2.2.2.2.2.2.2.2.2.2.2.2.2.2.2.2.2.2.2.2.2.2.2.2.2.2.1
theorem d_MD_meet_121 : decode prog_12_method_96_code 121 = .ok (.iconst 1, 1) := F_MD_meet_62.2.2.2.2.2.2.2.2.2.2.2.2.2.2.2.2.2.2.2.2.2.2.2.2.2.2.2.1
theorem d_MD_meet_122 : decode prog_12_method_96_code 122 = .ok (.laload, 1) := F_MD_meet_62.2.2.2.2.2.2.2.2.2.2.2.2.2.2.2.2.2.2.2.2.2.2.2.2.2.2.2.2.1
theorem d_MD_meet_123 : decode prog_12_method_96_code 123 = .ok (.lstore 8, 2) := F_MD_meet_62.2.2.2.2.2.2.2.2.2.2.2.2.2.2.2.2.2.2.2.2.2.2.2.2.2.2.2.2.2.1
theorem d_MD_meet_125 : decode prog_12_method_96_code 125 = .ok (.aload_n 0, 1) := F_MD_meet_62.2.2.2.2.2.2.2.2.2.2.2.2.2.2.2.2.2.2.2.2.2.2.2.2.2.2.2.2.2.2.1
theorem d_MD_meet_126 : decode prog_12_method_96_code 126 = .ok (.getfield 50, 3) := F_MD_meet_62.2.2.2.2.2.2.2.2.2.2.2.2.2.2.2.2.2.2.2.2.2.2.2.2.2.2.2.2.2.2.2.1
theorem F_MD_meet_129 : Jvm.Free.DS.Facts prog_12_method_96_code 129 [(.iconst 2, 1), (.laload, 1), (.lstore 10, 2), (.aload_n 0, 1), (.aload_n 0, 1), (.getfield 50, 3), (.lload 6, 2), (.lload 8, 2), (.lload 10, 2), (.aload_n 0, 1), (.getfield 53, 3), (.iconst 0, 1), (.laload, 1), (.aload_n 0, 1), (.getfield 53, 3), (.iconst 1, 1), (.laload, 1), (.aload_n 0, 1), (.getfield 53, 3), (.iconst 2, 1), (.laload, 1), (.invokevirtual 337, 3), (.aload_n 0, 1), (.getfield 50, 3), (.invokestatic 345, 3), (.ifCond .eq (7), 3), (.ldc2_w 309, 3), (.lreturn, 1), (.aload_n 0, 1), (.getfield 50, 3), (.invokestatic 220, 3), (.aload_n 0, 1)] := Jvm.Free.DS.facts 129 _ (by decide +kernel) (by decide +kernel)
theorem d_MD_meet_129 : decode prog_12_method_96_code 129 = .ok (.iconst 2, 1) := F_MD_meet_129.1
theorem d_MD_meet_130 : decode prog_12_method_96_code 130 = .ok (.laload, 1) := F_MD_meet_129.2.1
theorem d_MD_meet_131 : decode prog_12_method_96_code 131 = .ok (.lstore 10, 2) := F_MD_meet_129.2.2.1
theorem d_MD_meet_133 : decode prog_12_method_96_code 133 = .ok (.aload_n 0, 1) := F_MD_meet_129.2.2.2.1
theorem d_MD_meet_134 : decode prog_12_method_96_code 134 = .ok (.aload_n 0, 1) := F_MD_meet_129.2.2.2.2.1
theorem d_MD_meet_135 : decode prog_12_method_96_code 135 = .ok (.getfield 50, 3) := F_MD_meet_129.2.2.2.2.2.1
theorem d_MD_meet_138 : decode prog_12_method_96_code 138 = .ok (.lload 6, 2) := F_MD_meet_129.2.2.2.2.2.2.1
theorem d_MD_meet_140 : decode prog_12_method_96_code 140 = .ok (.lload 8, 2) := F_MD_meet_129.2.2.2.2.2.2.2.1
theorem d_MD_meet_142 : decode prog_12_method_96_code 142 = .ok (.lload 10, 2) := F_MD_meet_129.2.2.2.2.2.2.2.2.1
theorem d_MD_meet_144 : decode prog_12_method_96_code 144 = .ok (.aload_n 0, 1) := F_MD_meet_129.2.2.2.2.2.2.2.2.2.1
theorem d_MD_meet_145 : decode prog_12_method_96_code 145 = .ok (.getfield 53, 3) := F_MD_meet_129.2.2.2.2.2.2.2.2.2.2.1
theorem d_MD_meet_148 : decode prog_12_method_96_code 148 = .ok (.iconst 0, 1) := F_MD_meet_129.2.2.2.2.2.2.2.2.2.2.2.1
theorem d_MD_meet_149 : decode prog_12_method_96_code 149 = .ok (.laload, 1) := F_MD_meet_129.2.2.2.2.2.2.2.2.2.2.2.2.1
theorem d_MD_meet_150 : decode prog_12_method_96_code 150 = .ok (.aload_n 0, 1) := F_MD_meet_129.2.2.2.2.2.2.2.2.2.2.2.2.2.1
theorem d_MD_meet_151 : decode prog_12_method_96_code 151 = .ok (.getfield 53, 3) := F_MD_meet_129.2.2.2.2.2.2.2.2.2.2.2.2.2.2.1
theorem d_MD_meet_154 : decode prog_12_method_96_code 154 = .ok (.iconst 1, 1) := F_MD_meet_129.2.2.2.2.2.2.2.2.2.2.2.2.2.2.2.1
theorem d_MD_meet_155 : decode prog_12_method_96_code 155 = .ok (.laload, 1) := F_MD_meet_129.2.2.2.2.2.2.2.2.2.2.2.2.2.2.2.2.1
theorem d_MD_meet_156 : decode prog_12_method_96_code 156 = .ok (.aload_n 0, 1) := F_MD_meet_129.2.2.2.2.2.2.2.2.2.2.2.2.2.2.2.2.2.1
theorem d_MD_meet_157 : decode prog_12_method_96_code 157 = .ok (.getfield 53, 3) := F_MD_meet_129.2.2.2.2.2.2.2.2.2.2.2.2.2.2.2.2.2.2.1
theorem d_MD_meet_160 : decode prog_12_method_96_code 160 = .ok (.iconst 2, 1) := F_MD_meet_129.2.2.2.2.2.2.2.2.2.2.2.2.2.2.2.2.2.2.2.1
theorem d_MD_meet_161 : decode prog_12_method_96_code 161 = .ok (.laload, 1) := F_MD_meet_129.2.2.2.2.2.2.2.2.2.2.2.2.2.2.2.2.2.2.2.2.1
theorem d_MD_meet_162 : decode prog_12_method_96_code 162 = .ok (.invokevirtual 337, 3) := F_MD_meet_129.2.2.2.2.2.2.2.2.2.2.2.2.2.2.2.2.2.2.2.2.2.1
theorem d_MD_meet_165 : decode prog_12_method_96_code 165 = .ok (.aload_n 0, 1) := F_MD_meet_129.2.2.2.2.2.2.2.2.2.2.2.2.2.2.2.2.2.2.2.2.2.2.1
theorem d_MD_meet_166 : decode prog_12_method_96_code 166 = .ok (.getfield 50, 3) := F_MD_meet_129.2.2.2.2.2.2.2.2.2.2.2.2.2.2.2.2.2.2.2.2.2.2.2.1
theorem d_MD_meet_169 : decode prog_12_method_96_code 169 = .ok (.invokestatic 345, 3) := F_MD_meet_129.2.2.2.2.2.2.2.2.2.2.2.2.2.2.2.2.2.2.2.2.2.2.2.2.1
theorem d_MD_meet_172 : decode prog_12_method_96_code 172 = .ok (.ifCond .eq (7), 3) := F_MD_meet_129.2.2.2.2.2.2.2.2.2.2.2.2.2.2.2.2.2.2.2.2.2.2.2.2.2.1
theorem d_MD_meet_175 : decode prog_12_method_96_code 175 = .ok (.ldc2_w 309, 3) := F_MD_meet_129.2.2.2.2.2.2.2.2.2.2.2.2.2.2.2.2.2.2.2.2.2.2.2.2.2.2.1
theorem d_MD_meet_178 : decode prog_12_method_96_code 178 = .ok (.lreturn, 1) := F_MD_meet_129.2.2.2.2.2.2.2.2.2.2.2.2.2.2.2.2.2.2.2.2.2.2.2.2.2.2.2.1
theorem d_MD_meet_179 : decode prog_12_method_96_code 179 = .ok (.aload_n 0, 1) := F_MD_meet_129.2.2.2.2.2.2.2.2.2.2.2.2.2.2.2.2.2.2.2.2.2.2.2.2.2.2.2.2.1
theorem d_MD_meet_180 : decode prog_12_method_96_code 180 = .ok (.getfield 50, 3) := F_MD_meet_129.2.2.2.2.2.2.2.2.2.2.2.2.2.2.2.2.2.2.2.2.2.2.2.2.2.2.2.2.2.1
theorem d_MD_meet_183 : decode prog_12_method_96_code 183 = .ok (.invokestatic 220, 3) := F_MD_meet_129.2.2.2.2.2.2.2.2.2.2.2.2.2.2.2.2.2.2.2.2.2.2.2.2.2.2.2.2.2.2.1
theorem d_MD_meet_186 : decode prog_12_method_96_code 186 = .ok (.aload_n 0, 1) := F_MD_meet_129.2.2.2.2.2.2.2.2.2.2.2.2.2.2.2.2.2.2.2.2.2.2.2.2.2.2.2.2.2.2.2.1
theorem F_MD_meet_187 : Jvm.Free.DS.Facts prog_12_method_96_code 187 [(.getfield 50, 3), (.iload 5, 2), (.laload, 1), (.lreturn, 1)] := Jvm.Free.DS.facts 187 _ (by decide +kernel) (by decide +kernel)
theorem d_MD_meet_187 : decode prog_12_method_96_code 187 = .ok (.getfield 50, 3) := F_MD_meet_187.1
theorem d_MD_meet_190 : decode prog_12_method_96_code 190 = .ok (.iload 5, 2) := F_MD_meet_187.2.1
theorem d_MD_meet_192 : decode prog_12_method_96_code 192 = .ok (.laload, 1) := F_MD_meet_187.2.2.1
theorem d_MD_meet_193 : decode prog_12_method_96_code 193 = .ok (.lreturn, 1) := F_MD_meet_187.2.2.2.1
theorem F_MD_share_0 : Jvm.Free.DS.Facts prog_12_method_100_code 0 [(.aload_n 0, 1), (.iconst 0, 1), (.putfield 74, 3), (.aload_n 0, 1), (.iload_n 1, 1), (.invokevirtual 247, 3), (.ifCond .eq (39), 3), (.aload_n 0, 1), (.iload_n 2, 1), (.invokevirtual 247, 3), (.ifCond .eq (31), 3), (.aload_n 0, 1), (.iload_n 3, 1), (.invokevirtual 247, 3), (.ifCond .eq (23), 3), (.aload_n 0, 1), (.iload 4, 2), (.invokevirtual 247, 3), (.ifCond .eq (14), 3), (.iload 5, 2), (.ifCond .lt (9), 3), (.iload 5, 2), (.iconst 1, 1), (.if_icmp .le (7), 3), (.ldc2_w 307, 3), (.lreturn, 1), (.aload_n 0, 1), (.iload_n 1, 1), (.iload_n 2, 1), (.iload_n 3, 1), (.invokevirtual 356, 3), (.ifCond .ne (36), 3)] := Jvm.Free.DS.facts 0 _ (by decide +kernel) (by decide +kernel)
theorem d_MD_share_0 : decode prog_12_method_100_code 0 = .ok (.aload_n 0, 1) := F_MD_share_0.1
theorem d_MD_share_1 : decode prog_12_method_100_code 1 = .ok (.iconst 0, 1) := F_MD_share_0.2.1
theorem d_MD_share_2 : decode prog_12_method_100_code 2 = .ok (.putfield 74, 3) := F_MD_share_0.2.2.1
theorem d_MD_share_5 : decode prog_12_method_100_code 5 = .ok (.aload_n 0, 1) := F_MD_share_0.2.2.2.1
theorem d_MD_share_6 : decode prog_12_method_100_code 6 = .ok (.iload_n 1, 1) := F_MD_share_0.2.2.2.2.1
theorem d_MD_share_7 : decode prog_12_method_100_code 7 = .ok (.invokevirtual 247, 3) := F_MD_share_0.2.2.2.2.2.1
theorem d_MD_share_10 : decode prog_12_method_100_code 10 = .ok (.ifCond .eq (39), 3) := F_MD_share_0.2.2.2.2.2.2.1
theorem d_MD_share_13 : decode prog_12_method_100_code 13 = .ok (.aload_n 0, 1) := F_MD_share_0.2.2.2.2.2.2.2.1
theorem d_MD_share_14 : decode prog_12_method_100_code 14 = .ok (.iload_n 2, 1) := F_MD_share_0.2.2.2.2.2.2.2.2.1
theorem d_MD_share_15 : decode prog_12_method_100_code 15 = .ok (.invokevirtual 247, 3) := F_MD_share_0.2.2.2.2.2.2.2.2.2.1
theorem d_MD_share_18 : decode prog_12_method_100_code 18 = .ok (.ifCond .eq (31), 3) := F_MD_share_0.2.2.2.2.2.2.2.2.2.2.1
theorem d_MD_share_21 : decode prog_12_method_100_code 21 = .ok (.aload_n 0, 1) := F_MD_share_0.2.2.2.2.2.2.2.2.2.2.2.1
theorem d_MD_share_22 : decode prog_12_method_100_code 22 = .ok (.iload_n 3, 1) := F_MD_share_0.2.2.2.2.2.2.2.2.2.2.2.2.1
theorem d_MD_share_23 : decode prog_12_method_100_code 23 = .ok (.invokevirtual 247, 3) := F_MD_share_0.2.2.2.2.2.2.2.2.2.2.2.2.2.1
theorem d_MD_share_26 : decode prog_12_method_100_code 26 = .ok (.ifCond .eq (23), 3) := F_MD_share_0.2.2.2.2.2.2.2.2.2.2.2.2.2.2.1
theorem d_MD_share_29 : decode prog_12_method_100_code 29 = .ok (.aload_n 0, 1) := F_MD_share_0.2.2.2.2.2.2.2.2.2.2.2.2.2.2.2.1
theorem d_MD_share_30 : decode prog_12_method_100_code 30 = .ok (.iload 4, 2) := F_MD_share_0.2.2.2.2.2.2.2.2.2.2.2.2.2.2.2.2.1
theorem d_MD_share_32 : decode prog_12_method_100_code 32 = .ok (.invokevirtual 247, 3) := F_MD_share_0.2.2.2.2.2.2.2.2.2.2.2.2.2.2.2.2.2.1
theorem d_MD_share_35 : decode prog_12_method_100_code 35 = .ok (.ifCond .eq (14), 3) := F_MD_share_0.2.2.2.2.2.2.2.2.2.2.2.2.2.2.2.2.2.2.1
theorem d_MD_share_38 : decode prog_12_method_100_code 38 = .ok (.iload 5, 2) := F_MD_share_0.2.2.2.2.2.2.2.2.2.2.2.2.2.2.2.2.2.2.2.1
theorem d_MD_share_40 : decode prog_12_method_100_code 40 = .ok (.ifCond .lt (9), 3) := F_MD_share_0.2.2.2.2.2.2.2.2.2.2.2.2.2.2.2.2.2.2.2.2.1
theorem d_MD_share_43 : decode prog_12_method_100_code 43 = .ok (.iload 5, 2) := F_MD_share_0.2.2.2.2.2.2.2.2.2.2.2.2.2.2.2.2.2.2.2.2.2.1
theorem d_MD_share_45 : decode prog_12_method_100_code 45 = .ok (.iconst 1, 1) := F_MD_share_0.2.2.2.2.2.2.2.2.2.2.2.2.2.2.2.2.2.2.2.2.2.2.1
theorem d_MD_share_46 : decode prog_12_method_100_code 46 = .ok (.if_icmp .le (7), 3) := F_MD_share_0.2.2.2.2.2.2.2.2.2.2.2.2.2.2.2.2.2.2.2.2.2.2.2.1
theorem d_MD_share_49 : decode prog_12_method_100_code 49 = .ok (.ldc2_w 307, 3) := F_MD_share_0.2.2.2.2.2.2.2.2.2.2.2.2.2.2.2.2.2.2.2.2.2.2.2.2.1
theorem d_MD_share_52 : decode prog_12_method_100_code 52 = .ok (.lreturn, 1) := F_MD_share_0.2.2.2.2.2.2.2.2.2.2.2.2.2.2.2.2.2.2.2.2.2.2.2.2.2.1
theorem d_MD_share_53 : decode prog_12_method_100_code 53 = .ok (.aload_n 0, 1) := F_MD_share_0.2.2.2.2.2.2.2.2.2.2.2.2.2.2.2.2.2.2.2.2.2.2.2.2.2.2.1
theorem d_MD_share_54 : decode prog_12_method_100_code 54 = .ok (.iload_n 1, 1) := F_MD_share_0.2.2.2.2.2.2.2.2.2.2.2.2.2.2.2.2.2.2.2.2.2.2.2.2.2.2.2.1
theorem d_MD_share_55 : decode prog_12_method_100_code 55 = .ok (.iload_n 2, 1) := F_MD_share_0.2.2.2.2.2.2.2.2.2.2.2.2.2.2.2.2.2.2.2.2.2.2.2.2.2.2.2.2.1
theorem d_MD_share_56 : decode prog_12_method_100_code 56 = .ok (.iload_n 3, 1) := F_MD_share_0.2.2.2.2.2.2.2.2.2.2.2.2.2.2.2.2.2.2.2.2.2.2.2.2.2.2.2.2.2.1
theorem d_MD_share_57 : decode prog_12_method_100_code 57 = .ok (.invokevirtual 356, 3) := F_MD_share_0.2.2.2.2.2.2.2.2.2.2.2.2.2.2.2.2.2.2.2.2.2.2.2.2.2.2.2.2.2.2.1
theorem d_MD_share_60 : decode prog_12_method_100_code 60 = .ok (.ifCond .ne (36), 3) := F_MD_share_0.2.2.2.2.2.2.2.2.2.2.2.2.2.2.2.2.2.2.2.2.2.2.2.2.2.2.2.2.2.2.2.1
theorem F_MD_share_63 : Jvm.Free.DS.Facts prog_12_method_100_code 63 [(.aload_n 0, 1), (.iload_n 1, 1), (.iload_n 2, 1), (.iload 4, 2), (.invokevirtual 356, 3), (.ifCond .ne (25), 3), (.aload_n 0, 1), (.iload_n 1, 1), (.iload_n 3, 1), (.iload 4, 2), (.invokevirtual 356, 3), (.ifCond .ne (14), 3), (.aload_n 0, 1), (.iload_n 2, 1), (.iload_n 3, 1), (.iload 4, 2), (.invokevirtual 356, 3), (.ifCond .eq (7), 3), (.ldc2_w 309, 3), (.lreturn, 1), (.aload_n 0, 1), (.aload_n 0, 1), (.getfield 50, 3), (.iload_n 1, 1), (.aload_n 0, 1), (.iload_n 1, 1), (.iload_n 2, 1), (.invokevirtual 353, 3), (.ifCond .eq (7), 3), (.iload_n 3, 1), (.goto (4), 3), (.iload_n 2, 1)] := Jvm.Free.DS.facts 63 _ (by decide +kernel) (by decide +kernel)
theorem d_MD_share_63 : decode prog_12_method_100_code 63 = .ok (.aload_n 0, 1) := F_MD_share_63.1
theorem d_MD_share_64 : decode prog_12_method_100_code 64 = .ok (.iload_n 1, 1) := F_MD_share_63.2.1
theorem d_MD_share_65 : decode prog_12_method_100_code 65 = .ok (.iload_n 2, 1) := F_MD_share_63.2.2.1
theorem d_MD_share_66 : decode prog_12_method_100_code 66 = .ok (.iload 4, 2) := F_MD_share_63.2.2.2.1
theorem d_MD_share_68 : decode prog_12_method_100_code 68 = .ok (.invokevirtual 356, 3) := F_MD_share_63.2.2.2.2.1
theorem d_MD_share_71 : decode prog_12_method_100_code 71 = .ok (.ifCond .ne (25), 3) := F_MD_share_63.2.2.2.2.2.1
theorem d_MD_share_74 : decode prog_12_method_100_code 74 = .ok (.aload_n 0, 1) := F_MD_share_63.2.2.2.2.2.2.1
theorem d_MD_share_75 : decode prog_12_method_100_code 75 = .ok (.iload_n 1, 1) := F_MD_share_63.2.2.2.2.2.2.2.1
theorem d_MD_share_76 : decode prog_12_method_100_code 76 = .ok (.iload_n 3, 1) := F_MD_share_63.2.2.2.2.2.2.2.2.1
theorem d_MD_share_77 : decode prog_12_method_100_code 77 = .ok (.iload 4, 2) := F_MD_share_63.2.2.2.2.2.2.2.2.2.1
theorem d_MD_share_79 : decode prog_12_method_100_code 79 = .ok (.invokevirtual 356, 3) := F_MD_share_63.2.2.2.2.2.2.2.2.2.2.1
theorem d_MD_share_82 : decode prog_12_method_100_code 82 = .ok (.ifCond .ne (14), 3) := F_MD_share_63.2.2.2.2.2.2.2.2.2.2.2.1
theorem d_MD_share_85 : decode prog_12_method_100_code 85 = .ok (.aload_n 0, 1) := F_MD_share_63.2.2.2.2.2.2.2.2.2.2.2.2.1
theorem d_MD_share_86 : decode prog_12_method_100_code 86 = .ok (.iload_n 2, 1) := F_MD_share_63.2.2.2.2.2.2.2.2.2.2.2.2.2.1
theorem d_MD_share_87 : decode prog_12_method_100_code 87 = .ok (.iload_n 3, 1) := F_MD_share_63.2.2.2.2.2.2.2.2.2.2.2.2.2.2.1
theorem d_MD_share_88 : decode prog_12_method_100_code 88 = .ok (.iload 4, 2) := F_MD_share_63.2.2.2.2.2.2.2.2.2.2.2.2.2.2.2.1
theorem d_MD_share_90 : decode prog_12_method_100_code 90 = .ok (.invokevirtual 356, 3) := F_MD_share_63.2.2.2.2.2.2.2.2.2.2.2.2.2.2.2.2.1
theorem d_MD_share_93 : decode prog_12_method_100_code 93 = .ok (.ifCond .eq (7), 3) := F_MD_share_63.2.2.2.2.2.2.2.2.2.2.2.2.2.2.2.2.2.1
theorem d_MD_share_96 : decode prog_12_method_100_code 96 = .ok (.ldc2_w 309, 3) := F_MD_share_63.2.2.2.2.2.2.2.2.2.2.2.2.2.2.2.2.2.2.1
theorem d_MD_share_99 : decode prog_12_method_100_code 99 = .ok (.lreturn, 1) := F_MD_share_63.2.2.2.2.2.2.2.2.2.2.2.2.2.2.2.2.2.2.2.1
theorem d_MD_share_100 : decode prog_12_method_100_code 100 = .ok (.aload_n 0, 1) := F_MD_share_63.2.2.2.2.2.2.2.2.2.2.2.2.2.2.2.2.2.2.2.2.1
theorem d_MD_share_101 : decode prog_12_method_100_code 101 = .ok (.aload_n 0, 1) := F_MD_share_63.2.2.2.2.2.2.2.2.2.2.2.2.2.2.2.2.2.2.2.2.2.1
theorem d_MD_share_102 : decode prog_12_method_100_code 102 = .ok (.getfield 50, 3) := F_MD_share_63.2.2.2.2.2.2.2.2.2.2.2.2.2.2.2.2.2.2.2.2.2.2.1
theorem d_MD_share_105 : decode prog_12_method_100_code 105 = .ok (.iload_n 1, 1) := F_MD_share_63.2.2.2.2.2.2.2.2.2.2.2.2.2.2.2.2.2.2.2.2.2.2.2.1
theorem d_MD_share_106 : decode prog_12_method_100_code 106 = .ok (.aload_n 0, 1) := F_MD_share_63.2.2.2.2.2.2.2.2.2.2.2.2.2.2.2.2.2.2.2.2.2.2.2.2.1
theorem d_MD_share_107 : decode prog_12_method_100_code 107 = .ok (.iload_n 1, 1) := F_MD_share_63.2.2.2.2.2.2.2.2.2.2.2.2.2.2.2.2.2.2.2.2.2.2.2.2.2.1
theorem d_MD_share_108 : decode prog_12_method_100_code 108 = .ok (.iload_n 2, 1) := F_MD_share_63.2.2.2.2.2.2.2.2.2.2.2.2.2.2.2.2.2.2.2.2.2.2.2.2.2.2.1
theorem d_MD_share_109 : decode prog_12_method_100_code 109 = .ok (.invokevirtual 353, 3) := F_MD_share_63.2.2.2.2.2.2.2.2.2.2.2.2.2.2.2.2.2.2.2.2.2.2.2.2.2.2.2.1
theorem d_MD_share_112 : decode prog_12_method_100_code 112 = .ok (.ifCond .eq (7), 3) := F_MD_share_63.2.2.2.2.2.2.2.2.2.2.2.2.2.2.2.2.2.2.2.2.2.2.2.2.2.2.2.2.1
theorem d_MD_share_115 : decode prog_12_method_100_code 115 = .ok (.iload_n 3, 1) := F_MD_share_63.2.2.2.2.2.2.2.2.2.2.2.2.2.2.2.2.2.2.2.2.2.2.2.2.2.2.2.2.2.1
theorem d_MD_share_116 : decode prog_12_method_100_code 116 = .ok (.goto (4), 3) := F_MD_share_63.2.2.2.2.2.2.2.2.2.2.2.2.2.2.2.2.2.2.2.2.2.2.2.2.2.2.2.2.2.2.1
theorem d_MD_share_119 : decode prog_12_method_100_code 119 = .ok (.iload_n 2, 1) := F_MD_share_63.2.2.2.2.2.2.2.2.2.2.2.2.2.2.2.2.2.2.2.2.2.2.2.2.2.2.2.2.2.2.2.1
theorem F_MD_share_120 : Jvm.Free.DS.Facts prog_12_method_100_code 120 [(.invokevirtual 341, 3), (.aload_n 0, 1), (.getfield 50, 3), (.invokestatic 220, 3), (.aload_n 0, 1), (.aload_n 0, 1), (.getfield 50, 3), (.iload_n 1, 1), (.invokevirtual 349, 3), (.ifCond .eq (40), 3), (.aload_n 0, 1), (.aload_n 0, 1), (.getfield 50, 3), (.iload_n 2, 1), (.invokevirtual 349, 3), (.ifCond .eq (28), 3), (.aload_n 0, 1), (.aload_n 0, 1), (.getfield 50, 3), (.iload_n 3, 1), (.invokevirtual 349, 3), (.ifCond .eq (16), 3), (.aload_n 0, 1), (.aload_n 0, 1), (.getfield 50, 3), (.iload 4, 2), (.invokevirtual 349, 3), (.ifCond .ne (7), 3), (.ldc2_w 309, 3), (.lreturn, 1), (.aload_n 0, 1), (.iload_n 1, 1)] := Jvm.Free.DS.facts 120 _ (by decide +kernel) (by decide +kernel)
theorem d_MD_share_120 : decode prog_12_method_100_code 120 = .ok (.invokevirtual 341, 3) := F_MD_share_120.1
theorem d_MD_share_123 : decode prog_12_method_100_code 123 = .ok (.aload_n 0, 1) := F_MD_share_120.2.1
theorem d_MD_share_124 : decode prog_12_method_100_code 124 = .ok (.getfield 50, 3) := F_MD_share_120.2.2.1
theorem d_MD_share_127 : decode prog_12_method_100_code 127 = .ok (.invokestatic 220, 3) := F_MD_share_120.2.2.2.1
theorem d_MD_share_130 : decode prog_12_method_100_code 130 = .ok (.aload_n 0, 1) := F_MD_share_120.2.2.2.2.1
theorem d_MD_share_131 : decode prog_12_method_100_code 131 = .ok (.aload_n 0, 1) := F_MD_share_120.2.2.2.2.2.1
theorem d_MD_share_132 : decode prog_12_method_100_code 132 = .ok (.getfield 50, 3) := F_MD_share_120.2.2.2.2.2.2.1
theorem d_MD_share_135 : decode prog_12_method_100_code 135 = .ok (.iload_n 1, 1) := F_MD_share_120.2.2.2.2.2.2.2.1
theorem d_MD_share_136 : decode prog_12_method_100_code 136 = .ok (.invokevirtual 349, 3) := F_MD_share_120.2.2.2.2.2.2.2.2.1
theorem d_MD_share_139 : decode prog_12_method_100_code 139 = .ok (.ifCond .eq (40), 3) := F_MD_share_120.2.2.2.2.2.2.2.2.2.1
theorem d_MD_share_142 : decode prog_12_method_100_code 142 = .ok (.aload_n 0, 1) := F_MD_share_120.2.2.2.2.2.2.2.2.2.2.1
theorem d_MD_share_143 : decode prog_12_method_100_code 143 = .ok (.aload_n 0, 1) := F_MD_share_120.2.2.2.2.2.2.2.2.2.2.2.1
theorem d_MD_share_144 : decode prog_12_method_100_code 144 = .ok (.getfield 50, 3) := F_MD_share_120.2.2.2.2.2.2.2.2.2.2.2.2.1
theorem d_MD_share_147 : decode prog_12_method_100_code 147 = .ok (.iload_n 2, 1) := F_MD_share_120.2.2.2.2.2.2.2.2.2.2.2.2.2.1
theorem d_MD_share_148 : decode prog_12_method_100_code 148 = .ok (.invokevirtual 349, 3) := F_MD_share_120.2.2.2.2.2.2.2.2.2.2.2.2.2.2.1
theorem d_MD_share_151 : decode prog_12_method_100_code 151 = .ok (.ifCond .eq (28), 3) := F_MD_share_120.2.2.2.2.2.2.2.2.2.2.2.2.2.2.2.1
theorem d_MD_share_154 : decode prog_12_method_100_code 154 = .ok (.aload_n 0, 1) := F_MD_share_120.2.2.2.2.2.2.2.2.2.2.2.2.2.2.2.2.1
theorem d_MD_share_155 : decode prog_12_method_100_code 155 = .ok (.aload_n 0, 1) := F_MD_share_120.2.2.2.2.2.2.2.2.2.2.2.2.2.2.2.2.2.1
theorem d_MD_share_156 : decode prog_12_method_100_code 156 = .ok (.getfield 50, 3) := F_MD_share_120.2.2.2.2.2.2.2.2.2.2.2.2.2.2.2.2.2.2.1
theorem d_MD_share_159 : decode prog_12_method_100_code 159 = .ok (.iload_n 3, 1) := F_MD_share_120.2.2.2.2.2.2.2.2.2.2.2.2.2.2.2.2.2.2.2.1
theorem d_MD_share_160 : decode prog_12_method_100_code 160 = .ok (.invokevirtual 349, 3) := F_MD_share_120.2.2.2.2.2.2.2.2.2.2.2.2.2.2.2.2.2.2.2.2.1
theorem d_MD_share_163 : decode prog_12_method_100_code 163 = .ok (.ifCond .eq (16), 3) := F_MD_share_120.2.2.2.2.2.2.2.2.2.2.2.2.2.2.2.2.2.2.2.2.2.1
theorem d_MD_share_166 : decode prog_12_method_100_code 166 = .ok (.aload_n 0, 1) := F_MD_share_120.2.2.2.2.2.2.2.2.2.2.2.2.2.2.2.2.2.2.2.2.2.2.1
theorem d_MD_share_167 : decode prog_12_method_100_code 167 = .ok (.aload_n 0, 1) := F_MD_share_120.2.2.2.2.2.2.2.2.2.2.2.2.2.2.2.2.2.2.2.2.2.2.2.1
theorem d_MD_share_168 : decode prog_12_method_100_code 168 = .ok (.getfield 50, 3) := F_MD_share_120.2.2.2.2.2.2.2.2.2.2.2.2.2.2.2.2.2.2.2.2.2.2.2.2.1
theorem d_MD_share_171 : decode prog_12_method_100_code 171 = .ok (.iload 4, 2) := F_MD_share_120.2.2.2.2.2.2.2.2.2.2.2.2.2.2.2.2.2.2.2.2.2.2.2.2.2.1
theorem d_MD_share_173 : decode prog_12_method_100_code 173 = .ok (.invokevirtual 349, 3) := F_MD_share_120.2.2.2.2.2.2.2.2.2.2.2.2.2.2.2.2.2.2.2.2.2.2.2.2.2.2.1
theorem d_MD_share_176 : decode prog_12_method_100_code 176 = .ok (.ifCond .ne (7), 3) := F_MD_share_120.2.2.2.2.2.2.2.2.2.2.2.2.2.2.2.2.2.2.2.2.2.2.2.2.2.2.2.1
theorem d_MD_share_179 : decode prog_12_method_100_code 179 = .ok (.ldc2_w 309, 3) := F_MD_share_120.2.2.2.2.2.2.2.2.2.2.2.2.2.2.2.2.2.2.2.2.2.2.2.2.2.2.2.2.1
theorem d_MD_share_182 : decode prog_12_method_100_code 182 = .ok (.lreturn, 1) := F_MD_share_120.2.2.2.2.2.2.2.2.2.2.2.2.2.2.2.2.2.2.2.2.2.2.2.2.2.2.2.2.2.1
theorem d_MD_share_183 : decode prog_12_method_100_code 183 = .ok (.aload_n 0, 1) := F_MD_share_120.2.2.2.2.2.2.2.2.2.2.2.2.2.2.2.2.2.2.2.2.2.2.2.2.2.2.2.2.2.2.1
theorem d_MD_share_184 : decode prog_12_method_100_code 184 = .ok (.iload_n 1, 1) := F_MD_share_120.2.2.2.2.2.2.2.2.2.2.2.2.2.2.2.2.2.2.2.2.2.2.2.2.2.2.2.2.2.2.2.1
theorem F_MD_share_185 : Jvm.Free.DS.Facts prog_12_method_100_code 185 [(.iload_n 3, 1), (.invokevirtual 359, 3), (.aload_n 0, 1), (.iload_n 2, 1), (.iload 4, 2), (.invokevirtual 359, 3), (.lmul, 1), (.lstore 6, 2), (.aload_n 0, 1), (.iload_n 2, 1), (.iload_n 3, 1), (.invokevirtual 359, 3), (.aload_n 0, 1), (.iload_n 1, 1), (.iload 4, 2), (.invokevirtual 359, 3), (.lmul, 1), (.lstore 8, 2), (.lload 6, 2), (.lload 8, 2), (.invokestatic 216, 3), (.lstore 10, 2), (.lload 8, 2), (.lconst 0, 1), (.lcmp, 1), (.ifCond .lt (17), 3), (.lload 8, 2), (.lconst 0, 1), (.lcmp, 1), (.ifCond .ne (16), 3), (.lload 6, 2), (.lconst 0, 1)] := Jvm.Free.DS.facts 185 _ (by decide +kernel) (by decide +kernel)
theorem d_MD_share_185 : decode prog_12_method_100_code 185 = .ok (.iload_n 3, 1) := F_MD_share_185.1
theorem d_MD_share_186 : decode prog_12_method_100_code 186 = .ok (.invokevirtual 359, 3) := F_MD_share_185.2.1
theorem d_MD_share_189 : decode prog_12_method_100_code 189 = .ok (.aload_n 0, 1) := F_MD_share_185.2.2.1
theorem d_MD_share_190 : decode prog_12_method_100_code 190 = .ok (.iload_n 2, 1) := F_MD_share_185.2.2.2.1
theorem d_MD_share_191 : decode prog_12_method_100_code 191 = .ok (.iload 4, 2) := F_MD_share_185.2.2.2.2.1
theorem d_MD_share_193 : decode prog_12_method_100_code 193 = .ok (.invokevirtual 359, 3) := F_MD_share_185.2.2.2.2.2.1
theorem d_MD_share_196 : decode prog_12_method_100_code 196 = .ok (.lmul, 1) := F_MD_share_185.2.2.2.2.2.2.1
theorem d_MD_share_197 : decode prog_12_method_100_code 197 = .ok (.lstore 6, 2) := F_MD_share_185.2.2.2.2.2.2.2.1
theorem d_MD_share_199 : decode prog_12_method_100_code 199 = .ok (.aload_n 0, 1) := F_MD_share_185.2.2.2.2.2.2.2.2.1
theorem d_MD_share_200 : decode prog_12_method_100_code 200 = .ok (.iload_n 2, 1) := F_MD_share_185.2.2.2.2.2.2.2.2.2.1
theorem d_MD_share_201 : decode prog_12_method_100_code 201 = .ok (.iload_n 3, 1) := F_MD_share_185.2.2.2.2.2.2.2.2.2.2.1
theorem d_MD_share_202 : decode prog_12_method_100_code 202 = .ok (.invokevirtual 359, 3) := F_MD_share_185.2.2.2.2.2.2.2.2.2.2.2.1
theorem d_MD_share_205 : decode prog_12_method_100_code 205 = .ok (.aload_n 0, 1) := F_MD_share_185.2.2.2.2.2.2.2.2.2.2.2.2.1
theorem d_MD_share_206 : decode prog_12_method_100_code 206 = .ok (.iload_n 1, 1) := F_MD_share_185.2.2.2.2.2.2.2.2.2.2.2.2.2.1
theorem d_MD_share_207 : decode prog_12_method_100_code 207 = .ok (.iload 4, 2) := F_MD_share_185.2.2.2.2.2.2.2.2.2.2.2.2.2.2.1
theorem d_MD_share_209 : decode prog_12_method_100_code 209 = .ok (.invokevirtual 359, 3) := F_MD_share_185.2.2.2.2.2.2.2.2.2.2.2.2.2.2.2.1
theorem d_MD_share_212 : decode prog_12_method_100_code 212 = .ok (.lmul, 1) := F_MD_share_185.2.2.2.2.2.2.2.2.2.2.2.2.2.2.2.2.1
theorem d_MD_share_213 : decode prog_12_method_100_code 213 = .ok (.lstore 8, 2) := F_MD_share_185.2.2.2.2.2.2.2.2.2.2.2.2.2.2.2.2.2.1
theorem d_MD_share_215 : decode prog_12_method_100_code 215 = .ok (.lload 6, 2) := F_MD_share_185.2.2.2.2.2.2.2.2.2.2.2.2.2.2.2.2.2.2.1
theorem d_MD_share_217 : decode prog_12_method_100_code 217 = .ok (.lload 8, 2) := F_MD_share_185.2.2.2.2.2.2.2.2.2.2.2.2.2.2.2.2.2.2.2.1
theorem d_MD_share_219 : decode prog_12_method_100_code 219 = .ok (.invokestatic 216, 3) := F_MD_share_185.2.2.2.2.2.2.2.2.2.2.2.2.2.2.2.2.2.2.2.2.1
theorem d_MD_share_222 : decode prog_12_method_100_code 222 = .ok (.lstore 10, 2) := F_MD_share_185.2.2.2.2.2.2.2.2.2.2.2.2.2.2.2.2.2.2.2.2.2.1
theorem d_MD_share_224 : decode prog_12_method_100_code 224 = .ok (.lload 8, 2) := F_MD_share_185.2.2.2.2.2.2.2.2.2.2.2.2.2.2.2.2.2.2.2.2.2.2.1
theorem d_MD_share_226 : decode prog_12_method_100_code 226 = .ok (.lconst 0, 1) := F_MD_share_185.2.2.2.2.2.2.2.2.2.2.2.2.2.2.2.2.2.2.2.2.2.2.2.1
theorem d_MD_share_227 : decode prog_12_method_100_code 227 = .ok (.lcmp, 1) := F_MD_share_185.2.2.2.2.2.2.2.2.2.2.2.2.2.2.2.2.2.2.2.2.2.2.2.2.1
theorem d_MD_share_228 : decode prog_12_method_100_code 228 = .ok (.ifCond .lt (17), 3) := F_MD_share_185.2.2.2.2.2.2.2.2.2.2.2.2.2.2.2.2.2.2.2.2.2.2.2.2.2.1
theorem d_MD_share_231 : decode prog_12_method_100_code 231 = .ok (.lload 8, 2) := F_MD_share_185.2.2.2.2.2.2.2.2.2.2.2.2.2.2.2.2.2.2.2.2.2.2.2.2.2.2.1
theorem d_MD_share_233 : decode prog_12_method_100_code 233 = .ok (.lconst 0, 1) := F_MD_share_185.2.2.2.2.2.2.2.2.2.2.2.2.2.2.2.2.2.2.2.2.2.2.2.2.2.2.2.1
theorem d_MD_share_234 : decode prog_12_method_100_code 234 = .ok (.lcmp, 1) := F_MD_share_185.2.2.2.2.2.2.2.2.2.2.2.2.2.2.2.2.2.2.2.2.2.2.2.2.2.2.2.2.1
theorem d_MD_share_235 : decode prog_12_method_100_code 235 = .ok (.ifCond .ne (16), 3) := F_MD_share_185.2.2.2.2.2.2.2.2.2.2.2.2.2.2.2.2.2.2.2.2.2.2.2.2.2.2.2.2.2.1
theorem d_MD_share_238 : decode prog_12_method_100_code 238 = .ok (.lload 6, 2) := F_MD_share_185.2.2.2.2.2.2.2.2.2.2.2.2.2.2.2.2.2.2.2.2.2.2.2.2.2.2.2.2.2.2.1
theorem d_MD_share_240 : decode prog_12_method_100_code 240 = .ok (.lconst 0, 1) := F_MD_share_185.2.2.2.2.2.2.2.2.2.2.2.2.2.2.2.2.2.2.2.2.2.2.2.2.2.2.2.2.2.2.2.1
theorem F_MD_share_241 : Jvm.Free.DS.Facts prog_12_method_100_code 241 [(.lcmp, 1), (.ifCond .ge (9), 3), (.lload 10, 2), (.lneg, 1), (.goto (5), 3), (.lload 10, 2), (.lstore 10, 2), (.iload 5, 2), (.ifCond .ne (11), 3), (.lload 6, 2), (.lload 10, 2), (.ldiv, 1), (.goto (8), 3), (.lload 8, 2), (.lload 10, 2), (.ldiv, 1), (.lreturn, 1)] := Jvm.Free.DS.facts 241 _ (by decide +kernel) (by decide +kernel)
theorem d_MD_share_241 : decode prog_12_method_100_code 241 = .ok (.lcmp, 1) := F_MD_share_241.1
theorem d_MD_share_242 : decode prog_12_method_100_code 242 = .ok (.ifCond .ge (9), 3) := F_MD_share_241.2.1
theorem d_MD_share_245 : decode prog_12_method_100_code 245 = .ok (.lload 10, 2) := F_MD_share_241.2.2.1
theorem d_MD_share_247 : decode prog_12_method_100_code 247 = .ok (.lneg, 1) := F_MD_share_241.2.2.2.1
theorem d_MD_share_248 : decode prog_12_method_100_code 248 = .ok (.goto (5), 3) := F_MD_share_241.2.2.2.2.1
theorem d_MD_share_251 : decode prog_12_method_100_code 251 = .ok (.lload 10, 2) := F_MD_share_241.2.2.2.2.2.1
theorem d_MD_share_253 : decode prog_12_method_100_code 253 = .ok (.lstore 10, 2) := F_MD_share_241.2.2.2.2.2.2.1
theorem d_MD_share_255 : decode prog_12_method_100_code 255 = .ok (.iload 5, 2) := F_MD_share_241.2.2.2.2.2.2.2.1
theorem d_MD_share_257 : decode prog_12_method_100_code 257 = .ok (.ifCond .ne (11), 3) := F_MD_share_241.2.2.2.2.2.2.2.2.1
theorem d_MD_share_260 : decode prog_12_method_100_code 260 = .ok (.lload 6, 2) := F_MD_share_241.2.2.2.2.2.2.2.2.2.1
theorem d_MD_share_262 : decode prog_12_method_100_code 262 = .ok (.lload 10, 2) := F_MD_share_241.2.2.2.2.2.2.2.2.2.2.1
theorem d_MD_share_264 : decode prog_12_method_100_code 264 = .ok (.ldiv, 1) := F_MD_share_241.2.2.2.2.2.2.2.2.2.2.2.1
theorem d_MD_share_265 : decode prog_12_method_100_code 265 = .ok (.goto (8), 3) := F_MD_share_241.2.2.2.2.2.2.2.2.2.2.2.2.1
theorem d_MD_share_268 : decode prog_12_method_100_code 268 = .ok (.lload 8, 2) := F_MD_share_241.2.2.2.2.2.2.2.2.2.2.2.2.2.1
theorem d_MD_share_270 : decode prog_12_method_100_code 270 = .ok (.lload 10, 2) := F_MD_share_241.2.2.2.2.2.2.2.2.2.2.2.2.2.2.1
theorem d_MD_share_272 : decode prog_12_method_100_code 272 = .ok (.ldiv, 1) := F_MD_share_241.2.2.2.2.2.2.2.2.2.2.2.2.2.2.2.1
theorem d_MD_share_273 : decode prog_12_method_100_code 273 = .ok (.lreturn, 1) := F_MD_share_241.2.2.2.2.2.2.2.2.2.2.2.2.2.2.2.2.1
theorem F_MD_areThree_0 : Jvm.Free.DS.Facts prog_12_method_98_code 0 [(.aload_n 0, 1), (.iload_n 1, 1), (.iload_n 2, 1), (.invokevirtual 353, 3), (.ifCond .eq (16), 3), (.aload_n 0, 1), (.iload_n 1, 1), (.iload_n 3, 1), (.invokevirtual 353, 3), (.ifCond .eq (7), 3), (.iconst 1, 1), (.goto (4), 3), (.iconst 0, 1), (.ireturn, 1)] := Jvm.Free.DS.facts 0 _ (by decide +kernel) (by decide +kernel)
theorem d_MD_areThree_0 : decode prog_12_method_98_code 0 = .ok (.aload_n 0, 1) := F_MD_areThree_0.1
theorem d_MD_areThree_1 : decode prog_12_method_98_code 1 = .ok (.iload_n 1, 1) := F_MD_areThree_0.2.1
theorem d_MD_areThree_2 : decode prog_12_method_98_code 2 = .ok (.iload_n 2, 1) := F_MD_areThree_0.2.2.1
theorem d_MD_areThree_3 : decode prog_12_method_98_code 3 = .ok (.invokevirtual 353, 3) := F_MD_areThree_0.2.2.2.1
theorem d_MD_areThree_6 : decode prog_12_method_98_code 6 = .ok (.ifCond .eq (16), 3) := F_MD_areThree_0.2.2.2.2.1
theorem d_MD_areThree_9 : decode prog_12_method_98_code 9 = .ok (.aload_n 0, 1) := F_MD_areThree_0.2.2.2.2.2.1
theorem d_MD_areThree_10 : decode prog_12_method_98_code 10 = .ok (.iload_n 1, 1) := F_MD_areThree_0.2.2.2.2.2.2.1
theorem d_MD_areThree_11 : decode prog_12_method_98_code 11 = .ok (.iload_n 3, 1) := F_MD_areThree_0.2.2.2.2.2.2.2.1
theorem d_MD_areThree_12 : decode prog_12_method_98_code 12 = .ok (.invokevirtual 353, 3) := F_MD_areThree_0.2.2.2.2.2.2.2.2.1
theorem d_MD_areThree_15 : decode prog_12_method_98_code 15 = .ok (.ifCond .eq (7), 3) := F_MD_areThree_0.2.2.2.2.2.2.2.2.2.1
theorem d_MD_areThree_18 : decode prog_12_method_98_code 18 = .ok (.iconst 1, 1) := F_MD_areThree_0.2.2.2.2.2.2.2.2.2.2.1
theorem d_MD_areThree_19 : decode prog_12_method_98_code 19 = .ok (.goto (4), 3) := F_MD_areThree_0.2.2.2.2.2.2.2.2.2.2.2.1
theorem d_MD_areThree_22 : decode prog_12_method_98_code 22 = .ok (.iconst 0, 1) := F_MD_areThree_0.2.2.2.2.2.2.2.2.2.2.2.2.1
theorem d_MD_areThree_23 : decode prog_12_method_98_code 23 = .ok (.ireturn, 1) := F_MD_areThree_0.2.2.2.2.2.2.2.2.2.2.2.2.2.1
theorem F_MD_alike_0 : Jvm.Free.DS.Facts prog_12_method_97_code 0 [(.aload_n 0, 1), (.aload_n 0, 1), (.getfield 53, 3), (.iload_n 1, 1), (.iload_n 2, 1), (.invokevirtual 341, 3), (.aload_n 0, 1), (.getfield 53, 3), (.invokestatic 345, 3), (.ireturn, 1)] := Jvm.Free.DS.facts 0 _ (by decide +kernel) (by decide +kernel)
theorem d_MD_alike_0 : decode prog_12_method_97_code 0 = .ok (.aload_n 0, 1) := F_MD_alike_0.1
theorem d_MD_alike_1 : decode prog_12_method_97_code 1 = .ok (.aload_n 0, 1) := F_MD_alike_0.2.1
theorem d_MD_alike_2 : decode prog_12_method_97_code 2 = .ok (.getfield 53, 3) := F_MD_alike_0.2.2.1
theorem d_MD_alike_5 : decode prog_12_method_97_code 5 = .ok (.iload_n 1, 1) := F_MD_alike_0.2.2.2.1
theorem d_MD_alike_6 : decode prog_12_method_97_code 6 = .ok (.iload_n 2, 1) := F_MD_alike_0.2.2.2.2.1
theorem d_MD_alike_7 : decode prog_12_method_97_code 7 = .ok (.invokevirtual 341, 3) := F_MD_alike_0.2.2.2.2.2.1
theorem d_MD_alike_10 : decode prog_12_method_97_code 10 = .ok (.aload_n 0, 1) := F_MD_alike_0.2.2.2.2.2.2.1
theorem d_MD_alike_11 : decode prog_12_method_97_code 11 = .ok (.getfield 53, 3) := F_MD_alike_0.2.2.2.2.2.2.2.1
theorem d_MD_alike_14 : decode prog_12_method_97_code 14 = .ok (.invokestatic 345, 3) := F_MD_alike_0.2.2.2.2.2.2.2.2.1
theorem d_MD_alike_17 : decode prog_12_method_97_code 17 = .ok (.ireturn, 1) := F_MD_alike_0.2.2.2.2.2.2.2.2.2.1
theorem F_MD_often_0 : Jvm.Free.DS.Facts prog_12_method_99_code 0 [(.aload_n 0, 1), (.aload_n 0, 1), (.getfield 53, 3), (.iload_n 1, 1), (.iload_n 2, 1), (.invokevirtual 341, 3), (.aload_n 0, 1), (.getfield 50, 3), (.iconst 0, 1), (.laload, 1), (.lconst 0, 1), (.lcmp, 1), (.ifCond .eq (19), 3), (.aload_n 0, 1), (.getfield 53, 3), (.iconst 0, 1), (.laload, 1), (.aload_n 0, 1), (.getfield 50, 3), (.iconst 0, 1), (.laload, 1), (.ldiv, 1), (.goto (43), 3), (.aload_n 0, 1), (.getfield 50, 3), (.iconst 1, 1), (.laload, 1), (.lconst 0, 1), (.lcmp, 1), (.ifCond .eq (19), 3), (.aload_n 0, 1), (.getfield 53, 3)] := Jvm.Free.DS.facts 0 _ (by decide +kernel) (by decide +kernel)
theorem d_MD_often_0 : decode prog_12_method_99_code 0 = .ok (.aload_n 0, 1) := F_MD_often_0.1
theorem d_MD_often_1 : decode prog_12_method_99_code 1 = .ok (.aload_n 0, 1) := F_MD_often_0.2.1
theorem d_MD_often_2 : decode prog_12_method_99_code 2 = .ok (.getfield 53, 3) := F_MD_often_0.2.2.1
theorem d_MD_often_5 : decode prog_12_method_99_code 5 = .ok (.iload_n 1, 1) := F_MD_often_0.2.2.2.1
theorem d_MD_often_6 : decode prog_12_method_99_code 6 = .ok (.iload_n 2, 1) := F_MD_often_0.2.2.2.2.1
theorem d_MD_often_7 : decode prog_12_method_99_code 7 = .ok (.invokevirtual 341, 3) := F_MD_often_0.2.2.2.2.2.1
theorem d_MD_often_10 : decode prog_12_method_99_code 10 = .ok (.aload_n 0, 1) := F_MD_often_0.2.2.2.2.2.2.1
theorem d_MD_often_11 : decode prog_12_method_99_code 11 = .ok (.getfield 50, 3) := F_MD_often_0.2.2.2.2.2.2.2.1
theorem d_MD_often_14 : decode prog_12_method_99_code 14 = .ok (.iconst 0, 1) := F_MD_often_0.2.2.2.2.2.2.2.2.1
theorem d_MD_often_15 : decode prog_12_method_99_code 15 = .ok (.laload, 1) := F_MD_often_0.2.2.2.2.2.2.2.2.2.1
theorem d_MD_often_16 : decode prog_12_method_99_code 16 = .ok (.lconst 0, 1) := F_MD_often_0.2.2.2.2.2.2.2.2.2.2.1
theorem d_MD_often_17 : decode prog_12_method_99_code 17 = .ok (.lcmp, 1) := F_MD_often_0.2.2.2.2.2.2.2.2.2.2.2.1
theorem d_MD_often_18 : decode prog_12_method_99_code 18 = .ok (.ifCond .eq (19), 3) := F_MD_often_0.2.2.2.2.2.2.2.2.2.2.2.2.1
theorem d_MD_often_21 : decode prog_12_method_99_code 21 = .ok (.aload_n 0, 1) := F_MD_often_0.2.2.2.2.2.2.2.2.2.2.2.2.2.1
theorem d_MD_often_22 : decode prog_12_method_99_code 22 = .ok (.getfield 53, 3) := F_MD_often_0.2.2.2.2.2.2.2.2.2.2.2.2.2.2.1
theorem d_MD_often_25 : decode prog_12_method_99_code 25 = .ok (.iconst 0, 1) := F_MD_often_0.2.2.2.2.2.2.2.2.2.2.2.2.2.2.2.1
theorem d_MD_often_26 : decode prog_12_method_99_code 26 = .ok (.laload, 1) := F_MD_often_0.2.2.2.2.2.2.2.2.2.2.2.2.2.2.2.2.1
theorem d_MD_often_27 : decode prog_12_method_99_code 27 = .ok (.aload_n 0, 1) := F_MD_often_0.2.2.2.2.2.2.2.2.2.2.2.2.2.2.2.2.2.1
theorem d_MD_often_28 : decode prog_12_method_99_code 28 = .ok (.getfield 50, 3) := F_MD_often_0.2.2.2.2.2.2.2.2.2.2.2.2.2.2.2.2.2.2.1
theorem d_MD_often_31 : decode prog_12_method_99_code 31 = .ok (.iconst 0, 1) := F_MD_often_0.2.2.2.2.2.2.2.2.2.2.2.2.2.2.2.2.2.2.2.1
theorem d_MD_often_32 : decode prog_12_method_99_code 32 = .ok (.laload, 1) := F_MD_often_0.2.2.2.2.2.2.2.2.2.2.2.2.2.2.2.2.2.2.2.2.1
theorem d_MD_often_33 : decode prog_12_method_99_code 33 = .ok (.ldiv, 1) := F_MD_often_0.2.2.2.2.2.2.2.2.2.2.2.2.2.2.2.2.2.2.2.2.2.1
theorem d_MD_often_34 : decode prog_12_method_99_code 34 = .ok (.goto (43), 3) := F_MD_often_0.2.2.2.2.2.2.2.2.2.2.2.2.2.2.2.2.2.2.2.2.2.2.1
theorem d_MD_often_37 : decode prog_12_method_99_code 37 = .ok (.aload_n 0, 1) := F_MD_often_0.2.2.2.2.2.2.2.2.2.2.2.2.2.2.2.2.2.2.2.2.2.2.2.1
theorem d_MD_often_38 : decode prog_12_method_99_code 38 = .ok (.getfield 50, 3) := F_MD_often_0.2.2.2.2.2.2.2.2.2.2.2.2.2.2.2.2.2.2.2.2.2.2.2.2.1
theorem d_MD_often_41 : decode prog_12_method_99_code 41 = .ok (.iconst 1, 1) := F_MD_often_0.2.2.2.2.2.2.2.2.2.2.2.2.2.2.2.2.2.2.2.2.2.2.2.2.2.1
theorem d_MD_often_42 : decode prog_12_method_99_code 42 = .ok (.laload, 1) := F_MD_often_0.2.2.2.2.2.2.2.2.2.2.2.2.2.2.2.2.2.2.2.2.2.2.2.2.2.2.1
theorem d_MD_often_43 : decode prog_12_method_99_code 43 = .ok (.lconst 0, 1) := F_MD_often_0.2.2.2.2.2.2.2.2.2.2.2.2.2.2.2.2.2.2.2.2.2.2.2.2.2.2.2.1
theorem d_MD_often_44 : decode prog_12_method_99_code 44 = .ok (.lcmp, 1) := F_MD_often_0.2.2.2.2.2.2.2.2.2.2.2.2.2.2.2.2.2.2.2.2.2.2.2.2.2.2.2.2.1
theorem d_MD_often_45 : decode prog_12_method_99_code 45 = .ok (.ifCond .eq (19), 3) := F_MD_often_0.2.2.2.2.2.2.2.2.2.2.2.2.2.2.2.2.2.2.2.2.2.2.2.2.2.2.2.2.2.1
theorem d_MD_often_48 : decode prog_12_method_99_code 48 = .ok (.aload_n 0, 1) := F_MD_often_0.2.2.2.2.2.2.2.2.2.2.2.2.2.2.2.2.2.2.2.2.2.2.2.2.2.2.2.2.2.2.1
theorem d_MD_often_49 : decode prog_12_method_99_code 49 = .ok (.getfield 53, 3) := F_MD_often_0.2.2.2.2.2.2.2.2.2.2.2.2.2.2.2.2.2.2.2.2.2.2.2.2.2.2.2.2.2.2.2.1
theorem F_MD_often_52 : Jvm.Free.DS.Facts prog_12_method_99_code 52 [(.iconst 1, 1), (.laload, 1), (.aload_n 0, 1), (.getfield 50, 3), (.iconst 1, 1), (.laload, 1), (.ldiv, 1), (.goto (16), 3), (.aload_n 0, 1), (.getfield 53, 3), (.iconst 2, 1), (.laload, 1), (.aload_n 0, 1), (.getfield 50, 3), (.iconst 2, 1), (.laload, 1), (.ldiv, 1), (.lreturn, 1)] := Jvm.Free.DS.facts 52 _ (by decide +kernel) (by decide +kernel)
theorem d_MD_often_52 : decode prog_12_method_99_code 52 = .ok (.iconst 1, 1) := F_MD_often_52.1
theorem d_MD_often_53 : decode prog_12_method_99_code 53 = .ok (.laload, 1) := F_MD_often_52.2.1
theorem d_MD_often_54 : decode prog_12_method_99_code 54 = .ok (.aload_n 0, 1) := F_MD_often_52.2.2.1
theorem d_MD_often_55 : decode prog_12_method_99_code 55 = .ok (.getfield 50, 3) := F_MD_often_52.2.2.2.1
theorem d_MD_often_58 : decode prog_12_method_99_code 58 = .ok (.iconst 1, 1) := F_MD_often_52.2.2.2.2.1
theorem d_MD_often_59 : decode prog_12_method_99_code 59 = .ok (.laload, 1) := F_MD_often_52.2.2.2.2.2.1
theorem d_MD_often_60 : decode prog_12_method_99_code 60 = .ok (.ldiv, 1) := F_MD_often_52.2.2.2.2.2.2.1
theorem d_MD_often_61 : decode prog_12_method_99_code 61 = .ok (.goto (16), 3) := F_MD_often_52.2.2.2.2.2.2.2.1
theorem d_MD_often_64 : decode prog_12_method_99_code 64 = .ok (.aload_n 0, 1) := F_MD_often_52.2.2.2.2.2.2.2.2.1
theorem d_MD_often_65 : decode prog_12_method_99_code 65 = .ok (.getfield 53, 3) := F_MD_often_52.2.2.2.2.2.2.2.2.2.1
theorem d_MD_often_68 : decode prog_12_method_99_code 68 = .ok (.iconst 2, 1) := F_MD_often_52.2.2.2.2.2.2.2.2.2.2.1
theorem d_MD_often_69 : decode prog_12_method_99_code 69 = .ok (.laload, 1) := F_MD_often_52.2.2.2.2.2.2.2.2.2.2.2.1
theorem d_MD_often_70 : decode prog_12_method_99_code 70 = .ok (.aload_n 0, 1) := F_MD_often_52.2.2.2.2.2.2.2.2.2.2.2.2.1
theorem d_MD_often_71 : decode prog_12_method_99_code 71 = .ok (.getfield 50, 3) := F_MD_often_52.2.2.2.2.2.2.2.2.2.2.2.2.2.1
theorem d_MD_often_74 : decode prog_12_method_99_code 74 = .ok (.iconst 2, 1) := F_MD_often_52.2.2.2.2.2.2.2.2.2.2.2.2.2.2.1
theorem d_MD_often_75 : decode prog_12_method_99_code 75 = .ok (.laload, 1) := F_MD_often_52.2.2.2.2.2.2.2.2.2.2.2.2.2.2.2.1
theorem d_MD_often_76 : decode prog_12_method_99_code 76 = .ok (.ldiv, 1) := F_MD_often_52.2.2.2.2.2.2.2.2.2.2.2.2.2.2.2.2.1
theorem d_MD_often_77 : decode prog_12_method_99_code 77 = .ok (.lreturn, 1) := F_MD_often_52.2.2.2.2.2.2.2.2.2.2.2.2.2.2.2.2.2.1
theorem F_MD_fourth_0 : Jvm.Free.DS.Facts prog_12_method_101_code 0 [(.aload_n 0, 1), (.iconst 0, 1), (.putfield 74, 3), (.aload_n 0, 1), (.iload_n 1, 1), (.invokevirtual 247, 3), (.ifCond .eq (27), 3), (.aload_n 0, 1), (.iload_n 2, 1), (.invokevirtual 247, 3), (.ifCond .eq (19), 3), (.aload_n 0, 1), (.iload_n 3, 1), (.invokevirtual 247, 3), (.ifCond .eq (11), 3), (.iload 4, 2), (.invokestatic 244, 3), (.ifCond .ne (7), 3), (.ldc2_w 307, 3), (.lreturn, 1), (.aload_n 0, 1), (.iload_n 1, 1), (.iload_n 2, 1), (.invokevirtual 353, 3), (.ifCond .ne (21), 3), (.aload_n 0, 1), (.iload_n 1, 1), (.iload_n 3, 1), (.invokevirtual 353, 3), (.ifCond .ne (12), 3), (.aload_n 0, 1), (.iload_n 2, 1)] := Jvm.Free.DS.facts 0 _ (by decide +kernel) (by decide +kernel)
theorem d_MD_fourth_0 : decode prog_12_method_101_code 0 = .ok (.aload_n 0, 1) := F_MD_fourth_0.1
theorem d_MD_fourth_1 : decode prog_12_method_101_code 1 = .ok (.iconst 0, 1) := F_MD_fourth_0.2.1
theorem d_MD_fourth_2 : decode prog_12_method_101_code 2 = .ok (.putfield 74, 3) := F_MD_fourth_0.2.2.1
theorem d_MD_fourth_5 : decode prog_12_method_101_code 5 = .ok (.aload_n 0, 1) := F_MD_fourth_0.2.2.2.1
theorem d_MD_fourth_6 : decode prog_12_method_101_code 6 = .ok (.iload_n 1, 1) := F_MD_fourth_0.2.2.2.2.1
theorem d_MD_fourth_7 : decode prog_12_method_101_code 7 = .ok (.invokevirtual 247, 3) := F_MD_fourth_0.2.2.2.2.2.1
theorem d_MD_fourth_10 : decode prog_12_method_101_code 10 = .ok (.ifCond .eq (27), 3) := F_MD_fourth_0.2.2.2.2.2.2.1
theorem d_MD_fourth_13 : decode prog_12_method_101_code 13 = .ok (.aload_n 0, 1) := F_MD_fourth_0.2.2.2.2.2.2.2.1
theorem d_MD_fourth_14 : decode prog_12_method_101_code 14 = .ok (.iload_n 2, 1) := F_MD_fourth_0.2.2.2.2.2.2.2.2.1
theorem d_MD_fourth_15 : decode prog_12_method_101_code 15 = .ok (.invokevirtual 247, 3) := F_MD_fourth_0.2.2.2.2.2.2.2.2.2.1
theorem d_MD_fourth_18 : decode prog_12_method_101_code 18 = .ok (.ifCond .eq (19), 3) := F_MD_fourth_0.2.2.2.2.2.2.2.2.2.2.1
theorem d_MD_fourth_21 : decode prog_12_method_101_code 21 = .ok (.aload_n 0, 1) := F_MD_fourth_0.2.2.2.2.2.2.2.2.2.2.2.1
theorem d_MD_fourth_22 : decode prog_12_method_101_code 22 = .ok (.iload_n 3, 1) := F_MD_fourth_0.2.2.2.2.2.2.2.2.2.2.2.2.1
theorem d_MD_fourth_23 : decode prog_12_method_101_code 23 = .ok (.invokevirtual 247, 3) := F_MD_fourth_0.2.2.2.2.2.2.2.2.2.2.2.2.2.1
theorem d_MD_fourth_26 : decode prog_12_method_101_code 26 = .ok (.ifCond .eq (11), 3) := F_MD_fourth_0.2.2.2.2.2.2.2.2.2.2.2.2.2.2.1
theorem d_MD_fourth_29 : decode prog_12_method_101_code 29 = .ok (.iload 4, 2) := F_MD_fourth_0.2.2.2.2.2.2.2.2.2.2.2.2.2.2.2.1
theorem d_MD_fourth_31 : decode prog_12_method_101_code 31 = .ok (.invokestatic 244, 3) := F_MD_fourth_0.2.2.2.2.2.2.2.2.2.2.2.2.2.2.2.2.1
theorem d_MD_fourth_34 : decode prog_12_method_101_code 34 = .ok (.ifCond .ne (7), 3) := F_MD_fourth_0.2.2.2.2.2.2.2.2.2.2.2.2.2.2.2.2.2.1
theorem d_MD_fourth_37 : decode prog_12_method_101_code 37 = .ok (.ldc2_w 307, 3) := F_MD_fourth_0.2.2.2.2.2.2.2.2.2.2.2.2.2.2.2.2.2.2.1
theorem d_MD_fourth_40 : decode prog_12_method_101_code 40 = .ok (.lreturn, 1) := F_MD_fourth_0.2.2.2.2.2.2.2.2.2.2.2.2.2.2.2.2.2.2.2.1
theorem d_MD_fourth_41 : decode prog_12_method_101_code 41 = .ok (.aload_n 0, 1) := F_MD_fourth_0.2.2.2.2.2.2.2.2.2.2.2.2.2.2.2.2.2.2.2.2.1
theorem d_MD_fourth_42 : decode prog_12_method_101_code 42 = .ok (.iload_n 1, 1) := F_MD_fourth_0.2.2.2.2.2.2.2.2.2.2.2.2.2.2.2.2.2.2.2.2.2.1
theorem d_MD_fourth_43 : decode prog_12_method_101_code 43 = .ok (.iload_n 2, 1) := F_MD_fourth_0.2.2.2.2.2.2.2.2.2.2.2.2.2.2.2.2.2.2.2.2.2.2.1
theorem d_MD_fourth_44 : decode prog_12_method_101_code 44 = .ok (.invokevirtual 353, 3) := F_MD_fourth_0.2.2.2.2.2.2.2.2.2.2.2.2.2.2.2.2.2.2.2.2.2.2.2.1
theorem d_MD_fourth_47 : decode prog_12_method_101_code 47 = .ok (.ifCond .ne (21), 3) := F_MD_fourth_0.2.2.2.2.2.2.2.2.2.2.2.2.2.2.2.2.2.2.2.2.2.2.2.2.1
theorem d_MD_fourth_50 : decode prog_12_method_101_code 50 = .ok (.aload_n 0, 1) := F_MD_fourth_0.2.2.2.2.2.2.2.2.2.2.2.2.2.2.2.2.2.2.2.2.2.2.2.2.2.1
theorem d_MD_fourth_51 : decode prog_12_method_101_code 51 = .ok (.iload_n 1, 1) := F_MD_fourth_0.2.2.2.2.2.2.2.2.2.2.2.2.2.2.2.2.2.2.2.2.2.2.2.2.2.2.1
theorem d_MD_fourth_52 : decode prog_12_method_101_code 52 = .ok (.iload_n 3, 1) := F_MD_fourth_0.2.2.2.2.2.2.2.2.2.2.2.2.2.2.2.2.2.2.2.2.2.2.2.2.2.2.2.1
theorem d_MD_fourth_53 : decode prog_12_method_101_code 53 = .ok (.invokevirtual 353, 3) := F_MD_fourth_0.2.2.2.2.2.2.2.2.2.2.2.2.2.2.2.2.2.2.2.2.2.2.2.2.2.2.2.2.1
theorem d_MD_fourth_56 : decode prog_12_method_101_code 56 = .ok (.ifCond .ne (12), 3) := F_MD_fourth_0.2.2.2.2.2.2.2.2.2.2.2.2.2.2.2.2.2.2.2.2.2.2.2.2.2.2.2.2.2.1
theorem d_MD_fourth_59 : decode prog_12_method_101_code 59 = .ok (.aload_n 0, 1) := F_MD_fourth_0.2.2.2.2.2.2.2.2.2.2.2.2.2.2.2.2.2.2.2.2.2.2.2.2.2.2.2.2.2.2.1
theorem d_MD_fourth_60 : decode prog_12_method_101_code 60 = .ok (.iload_n 2, 1) := F_MD_fourth_0.2.2.2.2.2.2.2.2.2.2.2.2.2.2.2.2.2.2.2.2.2.2.2.2.2.2.2.2.2.2.2.1
theorem F_MD_fourth_61 : Jvm.Free.DS.Facts prog_12_method_101_code 61 [(.iload_n 3, 1), (.invokevirtual 353, 3), (.ifCond .eq (7), 3), (.ldc2_w 309, 3), (.lreturn, 1), (.aload_n 0, 1), (.aload_n 0, 1), (.getfield 50, 3), (.iload_n 1, 1), (.iload_n 2, 1), (.invokevirtual 341, 3), (.aload_n 0, 1), (.getfield 50, 3), (.invokestatic 220, 3), (.aload_n 0, 1), (.aload_n 0, 1), (.getfield 50, 3), (.iload_n 3, 1), (.invokevirtual 349, 3), (.ifCond .ne (7), 3), (.ldc2_w 309, 3), (.lreturn, 1), (.aload_n 0, 1), (.iload_n 2, 1), (.iload_n 3, 1), (.invokevirtual 359, 3), (.lstore 5, 2), (.aload_n 0, 1), (.iload_n 1, 1), (.iload_n 3, 1), (.invokevirtual 359, 3), (.lstore 7, 2)] := Jvm.Free.DS.facts 61 _ (by decide +kernel) (by decide +kernel)
theorem d_MD_fourth_61 : decode prog_12_method_101_code 61 = .ok (.iload_n 3, 1) := F_MD_fourth_61.1
theorem d_MD_fourth_62 : decode prog_12_method_101_code 62 = .ok (.invokevirtual 353, 3) := F_MD_fourth_61.2.1
theorem d_MD_fourth_65 : decode prog_12_method_101_code 65 = .ok (.ifCond .eq (7), 3) := F_MD_fourth_61.2.2.1
theorem d_MD_fourth_68 : decode prog_12_method_101_code 68 = .ok (.ldc2_w 309, 3) := F_MD_fourth_61.2.2.2.1
theorem d_MD_fourth_71 : decode prog_12_method_101_code 71 = .ok (.lreturn, 1) := F_MD_fourth_61.2.2.2.2.1
theorem d_MD_fourth_72 : decode prog_12_method_101_code 72 = .ok (.aload_n 0, 1) := F_MD_fourth_61.2.2.2.2.2.1
theorem d_MD_fourth_73 : decode prog_12_method_101_code 73 = .ok (.aload_n 0, 1) := F_MD_fourth_61.2.2.2.2.2.2.1
theorem d_MD_fourth_74 : decode prog_12_method_101_code 74 = .ok (.getfield 50, 3) := F_MD_fourth_61.2.2.2.2.2.2.2.1
theorem d_MD_fourth_77 : decode prog_12_method_101_code 77 = .ok (.iload_n 1, 1) := F_MD_fourth_61.2.2.2.2.2.2.2.2.1
theorem d_MD_fourth_78 : decode prog_12_method_101_code 78 = .ok (.iload_n 2, 1) := F_MD_fourth_61.2.2.2.2.2.2.2.2.2.1
theorem d_MD_fourth_79 : decode prog_12_method_101_code 79 = .ok (.invokevirtual 341, 3) := F_MD_fourth_61.2.2.2.2.2.2.2.2.2.2.1
theorem d_MD_fourth_82 : decode prog_12_method_101_code 82 = .ok (.aload_n 0, 1) := F_MD_fourth_61.2.2.2.2.2.2.2.2.2.2.2.1
theorem d_MD_fourth_83 : decode prog_12_method_101_code 83 = .ok (.getfield 50, 3) := F_MD_fourth_61.2.2.2.2.2.2.2.2.2.2.2.2.1
theorem d_MD_fourth_86 : decode prog_12_method_101_code 86 = .ok (.invokestatic 220, 3) := F_MD_fourth_61.2.2.2.2.2.2.2.2.2.2.2.2.2.1
theorem d_MD_fourth_89 : decode prog_12_method_101_code 89 = .ok (.aload_n 0, 1) := F_MD_fourth_61.2.2.2.2.2.2.2.2.2.2.2.2.2.2.1
theorem d_MD_fourth_90 : decode prog_12_method_101_code 90 = .ok (.aload_n 0, 1) := F_MD_fourth_61.2.2.2.2.2.2.2.2.2.2.2.2.2.2.2.1
theorem d_MD_fourth_91 : decode prog_12_method_101_code 91 = .ok (.getfield 50, 3) := F_MD_fourth_61.2.2.2.2.2.2.2.2.2.2.2.2.2.2.2.2.1
theorem d_MD_fourth_94 : decode prog_12_method_101_code 94 = .ok (.iload_n 3, 1) := F_MD_fourth_61.2.2.2.2.2.2.2.2.2.2.2.2.2.2.2.2.2.1
theorem d_MD_fourth_95 : decode prog_12_method_101_code 95 = .ok (.invokevirtual 349, 3) := F_MD_fourth_61.2.2.2.2.2.2.2.2.2.2.2.2.2.2.2.2.2.2.1
theorem d_MD_fourth_98 : decode prog_12_method_101_code 98 = .ok (.ifCond .ne (7), 3) := F_MD_fourth_61.2.2.2.2.2.2.2.2.2.2.2.2.2.2.2.2.2.2.2.1
theorem d_MD_fourth_101 : decode prog_12_method_101_code 101 = .ok (.ldc2_w 309, 3) := F_MD_fourth_61.2.2.2.2.2.2.2.2.2.2.2.2.2.2.2.2.2.2.2.2.1
theorem d_MD_fourth_104 : decode prog_12_method_101_code 104 = .ok (.lreturn, 1) := F_MD_fourth_61.2.2.2.2.2.2.2.2.2.2.2.2.2.2.2.2.2.2.2.2.2.1
theorem d_MD_fourth_105 : decode prog_12_method_101_code 105 = .ok (.aload_n 0, 1) := F_MD_fourth_61.2.2.2.2.2.2.2.2.2.2.2.2.2.2.2.2.2.2.2.2.2.2.1
theorem d_MD_fourth_106 : decode prog_12_method_101_code 106 = .ok (.iload_n 2, 1) := F_MD_fourth_61.2.2.2.2.2.2.2.2.2.2.2.2.2.2.2.2.2.2.2.2.2.2.2.1
theorem d_MD_fourth_107 : decode prog_12_method_101_code 107 = .ok (.iload_n 3, 1) := F_MD_fourth_61.2.2.2.2.2.2.2.2.2.2.2.2.2.2.2.2.2.2.2.2.2.2.2.2.1
theorem d_MD_fourth_108 : decode prog_12_method_101_code 108 = .ok (.invokevirtual 359, 3) := F_MD_fourth_61.2.2.2.2.2.2.2.2.2.2.2.2.2.2.2.2.2.2.2.2.2.2.2.2.2.1
theorem d_MD_fourth_111 : decode prog_12_method_101_code 111 = .ok (.lstore 5, 2) := F_MD_fourth_61.2.2.2.2.2.2.2.2.2.2.2.2.2.2.2.2.2.2.2.2.2.2.2.2.2.2.1
theorem d_MD_fourth_113 : decode prog_12_method_101_code 113 = .ok (.aload_n 0, 1) := F_MD_fourth_61.2.2.2.2.2.2.2.2.2.2.2.2.2.2.2.2.2.2.2.2.2.2.2.2.2.2.2.1
theorem d_MD_fourth_114 : decode prog_12_method_101_code 114 = .ok (.iload_n 1, 1) := F_MD_fourth_61.2.2.2.2.2.2.2.2.2.2.2.2.2.2.2.2.2.2.2.2.2.2.2.2.2.2.2.2.1
theorem d_MD_fourth_115 : decode prog_12_method_101_code 115 = .ok (.iload_n 3, 1) := F_MD_fourth_61.2.2.2.2.2.2.2.2.2.2.2.2.2.2.2.2.2.2.2.2.2.2.2.2.2.2.2.2.2.1
theorem d_MD_fourth_116 : decode prog_12_method_101_code 116 = .ok (.invokevirtual 359, 3) := F_MD_fourth_61.2.2.2.2.2.2.2.2.2.2.2.2.2.2.2.2.2.2.2.2.2.2.2.2.2.2.2.2.2.2.1
theorem d_MD_fourth_119 : decode prog_12_method_101_code 119 = .ok (.lstore 7, 2) := F_MD_fourth_61.2.2.2.2.2.2.2.2.2.2.2.2.2.2.2.2.2.2.2.2.2.2.2.2.2.2.2.2.2.2.2.1
theorem F_MD_fourth_121 : Jvm.Free.DS.Facts prog_12_method_101_code 121 [(.aload_n 0, 1), (.lload 5, 2), (.aload_n 0, 1), (.iload_n 1, 1), (.iconst 0, 1), (.invokevirtual 250, 3), (.lmul, 1), (.lload 7, 2), (.aload_n 0, 1), (.iload_n 2, 1), (.iconst 0, 1), (.invokevirtual 250, 3), (.lmul, 1), (.ladd, 1), (.lload 5, 2), (.aload_n 0, 1), (.iload_n 1, 1), (.iconst 1, 1), (.invokevirtual 250, 3), (.lmul, 1), (.lload 7, 2), (.aload_n 0, 1), (.iload_n 2, 1), (.iconst 1, 1), (.invokevirtual 250, 3), (.lmul, 1), (.ladd, 1), (.lload 5, 2), (.aload_n 0, 1), (.iload_n 1, 1), (.iconst 2, 1), (.invokevirtual 250, 3)] := Jvm.Free.DS.facts 121 _ (by decide +kernel) (by decide +kernel)
theorem d_MD_fourth_121 : decode prog_12_method_101_code 121 = .ok (.aload_n 0, 1) := F_MD_fourth_121.1
theorem d_MD_fourth_122 : decode prog_12_method_101_code 122 = .ok (.lload 5, 2) := F_MD_fourth_121.2.1
theorem d_MD_fourth_124 : decode prog_12_method_101_code 124 = .ok (.aload_n 0, 1) := F_MD_fourth_121.2.2.1
theorem d_MD_fourth_125 : decode prog_12_method_101_code 125 = .ok (.iload_n 1, 1) := F_MD_fourth_121.2.2.2.1
theorem d_MD_fourth_126 : decode prog_12_method_101_code 126 = .ok (.iconst 0, 1) := F_MD_fourth_121.2.2.2.2.1
theorem d_MD_fourth_127 : decode prog_12_method_101_code 127 = .ok (.invokevirtual 250, 3) := F_MD_fourth_121.2.2.2.2.2.1
theorem d_MD_fourth_130 : decode prog_12_method_101_code 130 = .ok (.lmul, 1) := F_MD_fourth_121.2.2.2.2.2.2.1
theorem d_MD_fourth_131 : decode prog_12_method_101_code 131 = .ok (.lload 7, 2) := F_MD_fourth_121.2.2.2.2.2.2.2.1
theorem d_MD_fourth_133 : decode prog_12_method_101_code 133 = .ok (.aload_n 0, 1) := F_MD_fourth_121.2.2.2.2.2.2.2.2.1
theorem d_MD_fourth_134 : decode prog_12_method_101_code 134 = .ok (.iload_n 2, 1) := F_MD_fourth_121.2.2.2.2.2.2.2.2.2.1
theorem d_MD_fourth_135 : decode prog_12_method_101_code 135 = .ok (.iconst 0, 1) := F_MD_fourth_121.2.2.2.2.2.2.2.2.2.2.1
theorem d_MD_fourth_136 : decode prog_12_method_101_code 136 = .ok (.invokevirtual 250, 3) := F_MD_fourth_121.2.2.2.2.2.2.2.2.2.2.2.1
theorem d_MD_fourth_139 : decode prog_12_method_101_code 139 = .ok (.lmul, 1) := F_MD_fourth_121.2.2.2.2.2.2.2.2.2.2.2.2.1
theorem d_MD_fourth_140 : decode prog_12_method_101_code 140 = .ok (.ladd, 1) := F_MD_fourth_121.2.2.2.2.2.2.2.2.2.2.2.2.2.1
theorem d_MD_fourth_141 : decode prog_12_method_101_code 141 = .ok (.lload 5, 2) := F_MD_fourth_121.2.2.2.2.2.2.2.2.2.2.2.2.2.2.1
theorem d_MD_fourth_143 : decode prog_12_method_101_code 143 = .ok (.aload_n 0, 1) := F_MD_fourth_121.2.2.2.2.2.2.2.2.2.2.2.2.2.2.2.1
theorem d_MD_fourth_144 : decode prog_12_method_101_code 144 = .ok (.iload_n 1, 1) := F_MD_fourth_121.2.2.2.2.2.2.2.2.2.2.2.2.2.2.2.2.1
theorem d_MD_fourth_145 : decode prog_12_method_101_code 145 = .ok (.iconst 1, 1) := F_MD_fourth_121.2.2.2.2.2.2.2.2.2.2.2.2.2.2.2.2.2.1
theorem d_MD_fourth_146 : decode prog_12_method_101_code 146 = .ok (.invokevirtual 250, 3) := F_MD_fourth_121.2.2.2.2.2.2.2.2.2.2.2.2.2.2.2.2.2.2.1
theorem d_MD_fourth_149 : decode prog_12_method_101_code 149 = .ok (.lmul, 1) := F_MD_fourth_121.2.2.2.2.2.2.2.2.2.2.2.2.2.2.2.2.2.2.2.1
theorem d_MD_fourth_150 : decode prog_12_method_101_code 150 = .ok (.lload 7, 2) := F_MD_fourth_121.2.2.2.2.2.2.2.2.2.2.2.2.2.2.2.2.2.2.2.2.1
theorem d_MD_fourth_152 : decode prog_12_method_101_code 152 = .ok (.aload_n 0, 1) := F_MD_fourth_121.2.2.2.2.2.2.2.2.2.2.2.2.2.2.2.2.2.2.2.2.2.1
theorem d_MD_fourth_153 : decode prog_12_method_101_code 153 = .ok (.iload_n 2, 1) := F_MD_fourth_121.2.2.2.2.2.2.2.2.2.2.2.2.2.2.2.2.2.2.2.2.2.2.1
theorem d_MD_fourth_154 : decode prog_12_method_101_code 154 = .ok (.iconst 1, 1) := F_MD_fourth_121.2.2.2.2.2.2.2.2.2.2.2.2.2.2.2.2.2.2.2.2.2.2.2.1
theorem d_MD_fourth_155 : decode prog_12_method_101_code 155 = .ok (.invokevirtual 250, 3) := F_MD_fourth_121.2.2.2.2.2.2.2.2.2.2.2.2.2.2.2.2.2.2.2.2.2.2.2.2.1
theorem d_MD_fourth_158 : decode prog_12_method_101_code 158 = .ok (.lmul, 1) := F_MD_fourth_121.2.2.2.2.2.2.2.2.2.2.2.2.2.2.2.2.2.2.2.2.2.2.2.2.2.1
theorem d_MD_fourth_159 : decode prog_12_method_101_code 159 = .ok (.ladd, 1) := F_MD_fourth_121.2.2.2.2.2.2.2.2.2.2.2.2.2.2.2.2.2.2.2.2.2.2.2.2.2.2.1
theorem d_MD_fourth_160 : decode prog_12_method_101_code 160 = .ok (.lload 5, 2) := F_MD_fourth_121.2.2.2.2.2.2.2.2.2.2.2.2.2.2.2.2.2.2.2.2.2.2.2.2.2.2.2.1
theorem d_MD_fourth_162 : decode prog_12_method_101_code 162 = .ok (.aload_n 0, 1) := F_MD_fourth_121.2.2.2.2.2.2.2.2.2.2.2.2.2.2.2.2.2.2.2.2.2.2.2.2.2.2.2.2.1
theorem d_MD_fourth_163 : decode prog_12_method_101_code 163 = .ok (.iload_n 1, 1) := F_MD_fourth_121.2.2.2.2.2.2.2.2.2.2.2.2.2.2.2.2.2.2.2.2.2.2.2.2.2.2.2.2.2.1
theorem d_MD_fourth_164 : decode prog_12_method_101_code 164 = .ok (.iconst 2, 1) := F_MD_fourth_121.2.2.2.2.2.2.2.2.2.2.2.2.2.2.2.2.2.2.2.2.2.2.2.2.2.2.2.2.2.2.1
theorem d_MD_fourth_165 : decode prog_12_method_101_code 165 = .ok (.invokevirtual 250, 3) := F_MD_fourth_121.2.2.2.2.2.2.2.2.2.2.2.2.2.2.2.2.2.2.2.2.2.2.2.2.2.2.2.2.2.2.2.1
theorem F_MD_fourth_168 : Jvm.Free.DS.Facts prog_12_method_101_code 168 [(.lmul, 1), (.lload 7, 2), (.aload_n 0, 1), (.iload_n 2, 1), (.iconst 2, 1), (.invokevirtual 250, 3), (.lmul, 1), (.ladd, 1), (.invokevirtual 179, 3), (.aload_n 0, 1), (.getfield 50, 3), (.iload 4, 2), (.laload, 1), (.lreturn, 1)] := Jvm.Free.DS.facts 168 _ (by decide +kernel) (by decide +kernel)
theorem d_MD_fourth_168 : decode prog_12_method_101_code 168 = .ok (.lmul, 1) := F_MD_fourth_168.1
theorem d_MD_fourth_169 : decode prog_12_method_101_code 169 = .ok (.lload 7, 2) := F_MD_fourth_168.2.1
theorem d_MD_fourth_171 : decode prog_12_method_101_code 171 = .ok (.aload_n 0, 1) := F_MD_fourth_168.2.2.1
theorem d_MD_fourth_172 : decode prog_12_method_101_code 172 = .ok (.iload_n 2, 1) := F_MD_fourth_168.2.2.2.1
theorem d_MD_fourth_173 : decode prog_12_method_101_code 173 = .ok (.iconst 2, 1) := F_MD_fourth_168.2.2.2.2.1
theorem d_MD_fourth_174 : decode prog_12_method_101_code 174 = .ok (.invokevirtual 250, 3) := F_MD_fourth_168.2.2.2.2.2.1
theorem d_MD_fourth_177 : decode prog_12_method_101_code 177 = .ok (.lmul, 1) := F_MD_fourth_168.2.2.2.2.2.2.1
theorem d_MD_fourth_178 : decode prog_12_method_101_code 178 = .ok (.ladd, 1) := F_MD_fourth_168.2.2.2.2.2.2.2.1
theorem d_MD_fourth_179 : decode prog_12_method_101_code 179 = .ok (.invokevirtual 179, 3) := F_MD_fourth_168.2.2.2.2.2.2.2.2.1
theorem d_MD_fourth_182 : decode prog_12_method_101_code 182 = .ok (.aload_n 0, 1) := F_MD_fourth_168.2.2.2.2.2.2.2.2.2.1
theorem d_MD_fourth_183 : decode prog_12_method_101_code 183 = .ok (.getfield 50, 3) := F_MD_fourth_168.2.2.2.2.2.2.2.2.2.2.1
theorem d_MD_fourth_186 : decode prog_12_method_101_code 186 = .ok (.iload 4, 2) := F_MD_fourth_168.2.2.2.2.2.2.2.2.2.2.2.1
theorem d_MD_fourth_188 : decode prog_12_method_101_code 188 = .ok (.laload, 1) := F_MD_fourth_168.2.2.2.2.2.2.2.2.2.2.2.2.1
theorem d_MD_fourth_189 : decode prog_12_method_101_code 189 = .ok (.lreturn, 1) := F_MD_fourth_168.2.2.2.2.2.2.2.2.2.2.2.2.2.1
theorem F_MD_track_0 : Jvm.Free.DS.Facts prog_12_method_105_code 0 [(.aload_n 0, 1), (.iconst 0, 1), (.putfield 74, 3), (.aload_n 0, 1), (.iload_n 1, 1), (.invokevirtual 241, 3), (.ifCond .eq (29), 3), (.aload_n 0, 1), (.iload_n 2, 1), (.invokevirtual 247, 3), (.ifCond .eq (21), 3), (.iload_n 3, 1), (.ifCond .lt (17), 3), (.iload_n 3, 1), (.bipush (20), 2), (.if_icmp .gt (11), 3), (.iload 4, 2), (.invokestatic 244, 3), (.ifCond .ne (7), 3), (.ldc2_w 307, 3), (.lreturn, 1), (.aload_n 0, 1), (.iload_n 1, 1), (.iload_n 2, 1), (.iload_n 3, 1), (.invokevirtual 365, 3), (.ifCond .eq (13), 3), (.aload_n 0, 1), (.getfield 50, 3), (.iload 4, 2), (.laload, 1), (.goto (6), 3)] := Jvm.Free.DS.facts 0 _ (by decide +kernel) (by decide +kernel)
theorem d_MD_track_0 : decode prog_12_method_105_code 0 = .ok (.aload_n 0, 1) := F_MD_track_0.1
theorem d_MD_track_1 : decode prog_12_method_105_code 1 = .ok (.iconst 0, 1) := F_MD_track_0.2.1
theorem d_MD_track_2 : decode prog_12_method_105_code 2 = .ok (.putfield 74, 3) := F_MD_track_0.2.2.1
theorem d_MD_track_5 : decode prog_12_method_105_code 5 = .ok (.aload_n 0, 1) := F_MD_track_0.2.2.2.1
theorem d_MD_track_6 : decode prog_12_method_105_code 6 = .ok (.iload_n 1, 1) := F_MD_track_0.2.2.2.2.1
theorem d_MD_track_7 : decode prog_12_method_105_code 7 = .ok (.invokevirtual 241, 3) := F_MD_track_0.2.2.2.2.2.1
theorem d_MD_track_10 : decode prog_12_method_105_code 10 = .ok (.ifCond .eq (29), 3) := F_MD_track_0.2.2.2.2.2.2.1
theorem d_MD_track_13 : decode prog_12_method_105_code 13 = .ok (.aload_n 0, 1) := F_MD_track_0.2.2.2.2.2.2.2.1
theorem d_MD_track_14 : decode prog_12_method_105_code 14 = .ok (.iload_n 2, 1) := F_MD_track_0.2.2.2.2.2.2.2.2.1
theorem d_MD_track_15 : decode prog_12_method_105_code 15 = .ok (.invokevirtual 247, 3) := F_MD_track_0.2.2.2.2.2.2.2.2.2.1
theorem d_MD_track_18 : decode prog_12_method_105_code 18 = .ok (.ifCond .eq (21), 3) := F_MD_track_0.2.2.2.2.2.2.2.2.2.2.1
theorem d_MD_track_21 : decode prog_12_method_105_code 21 = .ok (.iload_n 3, 1) := F_MD_track_0.2.2.2.2.2.2.2.2.2.2.2.1
theorem d_MD_track_22 : decode prog_12_method_105_code 22 = .ok (.ifCond .lt (17), 3) := F_MD_track_0.2.2.2.2.2.2.2.2.2.2.2.2.1
theorem d_MD_track_25 : decode prog_12_method_105_code 25 = .ok (.iload_n 3, 1) := F_MD_track_0.2.2.2.2.2.2.2.2.2.2.2.2.2.1
theorem d_MD_track_26 : decode prog_12_method_105_code 26 = .ok (.bipush (20), 2) := F_MD_track_0.2.2.2.2.2.2.2.2.2.2.2.2.2.2.1
theorem d_MD_track_28 : decode prog_12_method_105_code 28 = .ok (.if_icmp .gt (11), 3) := F_MD_track_0.2.2.2.2.2.2.2.2.2.2.2.2.2.2.2.1
theorem d_MD_track_31 : decode prog_12_method_105_code 31 = .ok (.iload 4, 2) := F_MD_track_0.2.2.2.2.2.2.2.2.2.2.2.2.2.2.2.2.1
theorem d_MD_track_33 : decode prog_12_method_105_code 33 = .ok (.invokestatic 244, 3) := F_MD_track_0.2.2.2.2.2.2.2.2.2.2.2.2.2.2.2.2.2.1
theorem d_MD_track_36 : decode prog_12_method_105_code 36 = .ok (.ifCond .ne (7), 3) := F_MD_track_0.2.2.2.2.2.2.2.2.2.2.2.2.2.2.2.2.2.2.1
theorem d_MD_track_39 : decode prog_12_method_105_code 39 = .ok (.ldc2_w 307, 3) := F_MD_track_0.2.2.2.2.2.2.2.2.2.2.2.2.2.2.2.2.2.2.2.1
theorem d_MD_track_42 : decode prog_12_method_105_code 42 = .ok (.lreturn, 1) := F_MD_track_0.2.2.2.2.2.2.2.2.2.2.2.2.2.2.2.2.2.2.2.2.1
theorem d_MD_track_43 : decode prog_12_method_105_code 43 = .ok (.aload_n 0, 1) := F_MD_track_0.2.2.2.2.2.2.2.2.2.2.2.2.2.2.2.2.2.2.2.2.2.1
theorem d_MD_track_44 : decode prog_12_method_105_code 44 = .ok (.iload_n 1, 1) := F_MD_track_0.2.2.2.2.2.2.2.2.2.2.2.2.2.2.2.2.2.2.2.2.2.2.1
theorem d_MD_track_45 : decode prog_12_method_105_code 45 = .ok (.iload_n 2, 1) := F_MD_track_0.2.2.2.2.2.2.2.2.2.2.2.2.2.2.2.2.2.2.2.2.2.2.2.1
theorem d_MD_track_46 : decode prog_12_method_105_code 46 = .ok (.iload_n 3, 1) := F_MD_track_0.2.2.2.2.2.2.2.2.2.2.2.2.2.2.2.2.2.2.2.2.2.2.2.2.1
theorem d_MD_track_47 : decode prog_12_method_105_code 47 = .ok (.invokevirtual 365, 3) := F_MD_track_0.2.2.2.2.2.2.2.2.2.2.2.2.2.2.2.2.2.2.2.2.2.2.2.2.2.1
theorem d_MD_track_50 : decode prog_12_method_105_code 50 = .ok (.ifCond .eq (13), 3) := F_MD_track_0.2.2.2.2.2.2.2.2.2.2.2.2.2.2.2.2.2.2.2.2.2.2.2.2.2.2.1
theorem d_MD_track_53 : decode prog_12_method_105_code 53 = .ok (.aload_n 0, 1) := F_MD_track_0.2.2.2.2.2.2.2.2.2.2.2.2.2.2.2.2.2.2.2.2.2.2.2.2.2.2.2.1
theorem d_MD_track_54 : decode prog_12_method_105_code 54 = .ok (.getfield 50, 3) := F_MD_track_0.2.2.2.2.2.2.2.2.2.2.2.2.2.2.2.2.2.2.2.2.2.2.2.2.2.2.2.2.1
theorem d_MD_track_57 : decode prog_12_method_105_code 57 = .ok (.iload 4, 2) := F_MD_track_0.2.2.2.2.2.2.2.2.2.2.2.2.2.2.2.2.2.2.2.2.2.2.2.2.2.2.2.2.2.1
theorem d_MD_track_59 : decode prog_12_method_105_code 59 = .ok (.laload, 1) := F_MD_track_0.2.2.2.2.2.2.2.2.2.2.2.2.2.2.2.2.2.2.2.2.2.2.2.2.2.2.2.2.2.2.1
theorem d_MD_track_60 : decode prog_12_method_105_code 60 = .ok (.goto (6), 3) := F_MD_track_0.2.2.2.2.2.2.2.2.2.2.2.2.2.2.2.2.2.2.2.2.2.2.2.2.2.2.2.2.2.2.2.1
theorem F_MD_track_63 : Jvm.Free.DS.Facts prog_12_method_105_code 63 [(.ldc2_w 309, 3), (.lreturn, 1)] := Jvm.Free.DS.facts 63 _ (by decide +kernel) (by decide +kernel)
theorem d_MD_track_63 : decode prog_12_method_105_code 63 = .ok (.ldc2_w 309, 3) := F_MD_track_63.1
theorem d_MD_track_66 : decode prog_12_method_105_code 66 = .ok (.lreturn, 1) := F_MD_track_63.2.1
theorem F_MD_tracks_0 : Jvm.Free.DS.Facts prog_12_method_104_code 0 [(.aload_n 0, 1), (.aload_n 0, 1), (.iload_n 2, 1), (.iconst 0, 1), (.invokevirtual 250, 3), (.aload_n 0, 1), (.iload_n 2, 1), (.iconst 1, 1), (.invokevirtual 250, 3), (.aload_n 0, 1), (.iload_n 2, 1), (.iconst 2, 1), (.invokevirtual 250, 3), (.invokevirtual 179, 3), (.aload_n 0, 1), (.aload_n 0, 1), (.getfield 44, 3), (.iload_n 1, 1), (.invokevirtual 274, 3), (.iconst 0, 1), (.istore 4, 2), (.iload 4, 2), (.iload_n 3, 1), (.if_icmp .ge (44), 3), (.aload_n 0, 1), (.aload_n 0, 1), (.getfield 44, 3), (.aload_n 0, 1), (.getfield 50, 3), (.iconst 0, 1), (.laload, 1), (.aload_n 0, 1)] := Jvm.Free.DS.facts 0 _ (by decide +kernel) (by decide +kernel)
theorem d_MD_tracks_0 : decode prog_12_method_104_code 0 = .ok (.aload_n 0, 1) := F_MD_tracks_0.1
theorem d_MD_tracks_1 : decode prog_12_method_104_code 1 = .ok (.aload_n 0, 1) := F_MD_tracks_0.2.1
theorem d_MD_tracks_2 : decode prog_12_method_104_code 2 = .ok (.iload_n 2, 1) := F_MD_tracks_0.2.2.1
theorem d_MD_tracks_3 : decode prog_12_method_104_code 3 = .ok (.iconst 0, 1) := F_MD_tracks_0.2.2.2.1
theorem d_MD_tracks_4 : decode prog_12_method_104_code 4 = .ok (.invokevirtual 250, 3) := F_MD_tracks_0.2.2.2.2.1
theorem d_MD_tracks_7 : decode prog_12_method_104_code 7 = .ok (.aload_n 0, 1) := F_MD_tracks_0.2.2.2.2.2.1
theorem d_MD_tracks_8 : decode prog_12_method_104_code 8 = .ok (.iload_n 2, 1) := F_MD_tracks_0.2.2.2.2.2.2.1
theorem d_MD_tracks_9 : decode prog_12_method_104_code 9 = .ok (.iconst 1, 1) := F_MD_tracks_0.2.2.2.2.2.2.2.1
theorem d_MD_tracks_10 : decode prog_12_method_104_code 10 = .ok (.invokevirtual 250, 3) := F_MD_tracks_0.2.2.2.2.2.2.2.2.1
theorem d_MD_tracks_13 : decode prog_12_method_104_code 13 = .ok (.aload_n 0, 1) := F_MD_tracks_0.2.2.2.2.2.2.2.2.2.1
theorem d_MD_tracks_14 : decode prog_12_method_104_code 14 = .ok (.iload_n 2, 1) := F_MD_tracks_0.2.2.2.2.2.2.2.2.2.2.1
theorem d_MD_tracks_15 : decode prog_12_method_104_code 15 = .ok (.iconst 2, 1) := F_MD_tracks_0.2.2.2.2.2.2.2.2.2.2.2.1
theorem d_MD_tracks_16 : decode prog_12_method_104_code 16 = .ok (.invokevirtual 250, 3) := F_MD_tracks_0.2.2.2.2.2.2.2.2.2.2.2.2.1
theorem d_MD_tracks_19 : decode prog_12_method_104_code 19 = .ok (.invokevirtual 179, 3) := F_MD_tracks_0.2.2.2.2.2.2.2.2.2.2.2.2.2.1
theorem d_MD_tracks_22 : decode prog_12_method_104_code 22 = .ok (.aload_n 0, 1) := F_MD_tracks_0.2.2.2.2.2.2.2.2.2.2.2.2.2.2.1
theorem d_MD_tracks_23 : decode prog_12_method_104_code 23 = .ok (.aload_n 0, 1) := F_MD_tracks_0.2.2.2.2.2.2.2.2.2.2.2.2.2.2.2.1
theorem d_MD_tracks_24 : decode prog_12_method_104_code 24 = .ok (.getfield 44, 3) := F_MD_tracks_0.2.2.2.2.2.2.2.2.2.2.2.2.2.2.2.2.1
theorem d_MD_tracks_27 : decode prog_12_method_104_code 27 = .ok (.iload_n 1, 1) := F_MD_tracks_0.2.2.2.2.2.2.2.2.2.2.2.2.2.2.2.2.2.1
theorem d_MD_tracks_28 : decode prog_12_method_104_code 28 = .ok (.invokevirtual 274, 3) := F_MD_tracks_0.2.2.2.2.2.2.2.2.2.2.2.2.2.2.2.2.2.2.1
theorem d_MD_tracks_31 : decode prog_12_method_104_code 31 = .ok (.iconst 0, 1) := F_MD_tracks_0.2.2.2.2.2.2.2.2.2.2.2.2.2.2.2.2.2.2.2.1
theorem d_MD_tracks_32 : decode prog_12_method_104_code 32 = .ok (.istore 4, 2) := F_MD_tracks_0.2.2.2.2.2.2.2.2.2.2.2.2.2.2.2.2.2.2.2.2.1
theorem d_MD_tracks_34 : decode prog_12_method_104_code 34 = .ok (.iload 4, 2) := F_MD_tracks_0.2.2.2.2.2.2.2.2.2.2.2.2.2.2.2.2.2.2.2.2.2.1
theorem d_MD_tracks_36 : decode prog_12_method_104_code 36 = .ok (.iload_n 3, 1) := F_MD_tracks_0.2.2.2.2.2.2.2.2.2.2.2.2.2.2.2.2.2.2.2.2.2.2.1
theorem d_MD_tracks_37 : decode prog_12_method_104_code 37 = .ok (.if_icmp .ge (44), 3) := F_MD_tracks_0.2.2.2.2.2.2.2.2.2.2.2.2.2.2.2.2.2.2.2.2.2.2.2.1
theorem d_MD_tracks_40 : decode prog_12_method_104_code 40 = .ok (.aload_n 0, 1) := F_MD_tracks_0.2.2.2.2.2.2.2.2.2.2.2.2.2.2.2.2.2.2.2.2.2.2.2.2.1
theorem d_MD_tracks_41 : decode prog_12_method_104_code 41 = .ok (.aload_n 0, 1) := F_MD_tracks_0.2.2.2.2.2.2.2.2.2.2.2.2.2.2.2.2.2.2.2.2.2.2.2.2.2.1
theorem d_MD_tracks_42 : decode prog_12_method_104_code 42 = .ok (.getfield 44, 3) := F_MD_tracks_0.2.2.2.2.2.2.2.2.2.2.2.2.2.2.2.2.2.2.2.2.2.2.2.2.2.2.1
theorem d_MD_tracks_45 : decode prog_12_method_104_code 45 = .ok (.aload_n 0, 1) := F_MD_tracks_0.2.2.2.2.2.2.2.2.2.2.2.2.2.2.2.2.2.2.2.2.2.2.2.2.2.2.2.1
theorem d_MD_tracks_46 : decode prog_12_method_104_code 46 = .ok (.getfield 50, 3) := F_MD_tracks_0.2.2.2.2.2.2.2.2.2.2.2.2.2.2.2.2.2.2.2.2.2.2.2.2.2.2.2.2.1
theorem d_MD_tracks_49 : decode prog_12_method_104_code 49 = .ok (.iconst 0, 1) := F_MD_tracks_0.2.2.2.2.2.2.2.2.2.2.2.2.2.2.2.2.2.2.2.2.2.2.2.2.2.2.2.2.2.1
theorem d_MD_tracks_50 : decode prog_12_method_104_code 50 = .ok (.laload, 1) := F_MD_tracks_0.2.2.2.2.2.2.2.2.2.2.2.2.2.2.2.2.2.2.2.2.2.2.2.2.2.2.2.2.2.2.1
theorem d_MD_tracks_51 : decode prog_12_method_104_code 51 = .ok (.aload_n 0, 1) := F_MD_tracks_0.2.2.2.2.2.2.2.2.2.2.2.2.2.2.2.2.2.2.2.2.2.2.2.2.2.2.2.2.2.2.2.1
theorem F_MD_tracks_52 : Jvm.Free.DS.Facts prog_12_method_104_code 52 [(.getfield 50, 3), (.iconst 1, 1), (.laload, 1), (.aload_n 0, 1), (.getfield 50, 3), (.iconst 2, 1), (.laload, 1), (.invokevirtual 294, 3), (.aload_n 0, 1), (.invokevirtual 362, 3), (.ifCond .ne (5), 3), (.iconst 0, 1), (.ireturn, 1), (.iinc 4 (1), 3), (.goto (-44), 3), (.iconst 1, 1), (.ireturn, 1)] := Jvm.Free.DS.facts 52 _ (by decide +kernel) (by decide +kernel)
theorem d_MD_tracks_52 : decode prog_12_method_104_code 52 = .ok (.getfield 50, 3) := F_MD_tracks_52.1
theorem d_MD_tracks_55 : decode prog_12_method_104_code 55 = .ok (.iconst 1, 1) := F_MD_tracks_52.2.1
theorem d_MD_tracks_56 : decode prog_12_method_104_code 56 = .ok (.laload, 1) := F_MD_tracks_52.2.2.1
theorem d_MD_tracks_57 : decode prog_12_method_104_code 57 = .ok (.aload_n 0, 1) := F_MD_tracks_52.2.2.2.1
theorem d_MD_tracks_58 : decode prog_12_method_104_code 58 = .ok (.getfield 50, 3) := F_MD_tracks_52.2.2.2.2.1
theorem d_MD_tracks_61 : decode prog_12_method_104_code 61 = .ok (.iconst 2, 1) := F_MD_tracks_52.2.2.2.2.2.1
theorem d_MD_tracks_62 : decode prog_12_method_104_code 62 = .ok (.laload, 1) := F_MD_tracks_52.2.2.2.2.2.2.1
theorem d_MD_tracks_63 : decode prog_12_method_104_code 63 = .ok (.invokevirtual 294, 3) := F_MD_tracks_52.2.2.2.2.2.2.2.1
theorem d_MD_tracks_66 : decode prog_12_method_104_code 66 = .ok (.aload_n 0, 1) := F_MD_tracks_52.2.2.2.2.2.2.2.2.1
theorem d_MD_tracks_67 : decode prog_12_method_104_code 67 = .ok (.invokevirtual 362, 3) := F_MD_tracks_52.2.2.2.2.2.2.2.2.2.1
theorem d_MD_tracks_70 : decode prog_12_method_104_code 70 = .ok (.ifCond .ne (5), 3) := F_MD_tracks_52.2.2.2.2.2.2.2.2.2.2.1
theorem d_MD_tracks_73 : decode prog_12_method_104_code 73 = .ok (.iconst 0, 1) := F_MD_tracks_52.2.2.2.2.2.2.2.2.2.2.2.1
theorem d_MD_tracks_74 : decode prog_12_method_104_code 74 = .ok (.ireturn, 1) := F_MD_tracks_52.2.2.2.2.2.2.2.2.2.2.2.2.1
theorem d_MD_tracks_75 : decode prog_12_method_104_code 75 = .ok (.iinc 4 (1), 3) := F_MD_tracks_52.2.2.2.2.2.2.2.2.2.2.2.2.2.1
theorem d_MD_tracks_78 : decode prog_12_method_104_code 78 = .ok (.goto (-44), 3) := F_MD_tracks_52.2.2.2.2.2.2.2.2.2.2.2.2.2.2.1
theorem d_MD_tracks_81 : decode prog_12_method_104_code 81 = .ok (.iconst 1, 1) := F_MD_tracks_52.2.2.2.2.2.2.2.2.2.2.2.2.2.2.2.1
theorem d_MD_tracks_82 : decode prog_12_method_104_code 82 = .ok (.ireturn, 1) := F_MD_tracks_52.2.2.2.2.2.2.2.2.2.2.2.2.2.2.2.2.1
theorem F_MD_hasEdges_0 : Jvm.Free.DS.Facts prog_12_method_102_code 0 [(.aload_n 0, 1), (.getfield 50, 3), (.iconst 0, 1), (.laload, 1), (.invokestatic 210, 3), (.ldc2_w 301, 3), (.lcmp, 1), (.ifCond .gt (39), 3), (.aload_n 0, 1), (.getfield 50, 3), (.iconst 1, 1), (.laload, 1), (.invokestatic 210, 3), (.ldc2_w 301, 3), (.lcmp, 1), (.ifCond .gt (23), 3), (.aload_n 0, 1), (.getfield 50, 3), (.iconst 2, 1), (.laload, 1), (.invokestatic 210, 3), (.ldc2_w 301, 3), (.lcmp, 1), (.ifCond .gt (7), 3), (.iconst 1, 1), (.goto (4), 3), (.iconst 0, 1), (.ireturn, 1)] := Jvm.Free.DS.facts 0 _ (by decide +kernel) (by decide +kernel)
theorem d_MD_hasEdges_0 : decode prog_12_method_102_code 0 = .ok (.aload_n 0, 1) := F_MD_hasEdges_0.1
theorem d_MD_hasEdges_1 : decode prog_12_method_102_code 1 = .ok (.getfield 50, 3) := F_MD_hasEdges_0.2.1
theorem d_MD_hasEdges_4 : decode prog_12_method_102_code 4 = .ok (.iconst 0, 1) := F_MD_hasEdges_0.2.2.1
theorem d_MD_hasEdges_5 : decode prog_12_method_102_code 5 = .ok (.laload, 1) := F_MD_hasEdges_0.2.2.2.1
theorem d_MD_hasEdges_6 : decode prog_12_method_102_code 6 = .ok (.invokestatic 210, 3) := F_MD_hasEdges_0.2.2.2.2.1
theorem d_MD_hasEdges_9 : decode prog_12_method_102_code 9 = .ok (.ldc2_w 301, 3) := F_MD_hasEdges_0.2.2.2.2.2.1
theorem d_MD_hasEdges_12 : decode prog_12_method_102_code 12 = .ok (.lcmp, 1) := F_MD_hasEdges_0.2.2.2.2.2.2.1
theorem d_MD_hasEdges_13 : decode prog_12_method_102_code 13 = .ok (.ifCond .gt (39), 3) := F_MD_hasEdges_0.2.2.2.2.2.2.2.1
theorem d_MD_hasEdges_16 : decode prog_12_method_102_code 16 = .ok (.aload_n 0, 1) := F_MD_hasEdges_0.2.2.2.2.2.2.2.2.1
theorem d_MD_hasEdges_17 : decode prog_12_method_102_code 17 = .ok (.getfield 50, 3) := F_MD_hasEdges_0.2.2.2.2.2.2.2.2.2.1
theorem d_MD_hasEdges_20 : decode prog_12_method_102_code 20 = .ok (.iconst 1, 1) := F_MD_hasEdges_0.2.2.2.2.2.2.2.2.2.2.1
theorem d_MD_hasEdges_21 : decode prog_12_method_102_code 21 = .ok (.laload, 1) := F_MD_hasEdges_0.2.2.2.2.2.2.2.2.2.2.2.1
theorem d_MD_hasEdges_22 : decode prog_12_method_102_code 22 = .ok (.invokestatic 210, 3) := F_MD_hasEdges_0.2.2.2.2.2.2.2.2.2.2.2.2.1
theorem d_MD_hasEdges_25 : decode prog_12_method_102_code 25 = .ok (.ldc2_w 301, 3) := F_MD_hasEdges_0.2.2.2.2.2.2.2.2.2.2.2.2.2.1
theorem d_MD_hasEdges_28 : decode prog_12_method_102_code 28 = .ok (.lcmp, 1) := F_MD_hasEdges_0.2.2.2.2.2.2.2.2.2.2.2.2.2.2.1
theorem d_MD_hasEdges_29 : decode prog_12_method_102_code 29 = .ok (.ifCond .gt (23), 3) := F_MD_hasEdges_0.2.2.2.2.2.2.2.2.2.2.2.2.2.2.2.1
theorem d_MD_hasEdges_32 : decode prog_12_method_102_code 32 = .ok (.aload_n 0, 1) := F_MD_hasEdges_0.2.2.2.2.2.2.2.2.2.2.2.2.2.2.2.2.1
theorem d_MD_hasEdges_33 : decode prog_12_method_102_code 33 = .ok (.getfield 50, 3) := F_MD_hasEdges_0.2.2.2.2.2.2.2.2.2.2.2.2.2.2.2.2.2.1
theorem d_MD_hasEdges_36 : decode prog_12_method_102_code 36 = .ok (.iconst 2, 1) := F_MD_hasEdges_0.2.2.2.2.2.2.2.2.2.2.2.2.2.2.2.2.2.2.1
theorem d_MD_hasEdges_37 : decode prog_12_method_102_code 37 = .ok (.laload, 1) := F_MD_hasEdges_0.2.2.2.2.2.2.2.2.2.2.2.2.2.2.2.2.2.2.2.1
theorem d_MD_hasEdges_38 : decode prog_12_method_102_code 38 = .ok (.invokestatic 210, 3) := F_MD_hasEdges_0.2.2.2.2.2.2.2.2.2.2.2.2.2.2.2.2.2.2.2.2.1
theorem d_MD_hasEdges_41 : decode prog_12_method_102_code 41 = .ok (.ldc2_w 301, 3) := F_MD_hasEdges_0.2.2.2.2.2.2.2.2.2.2.2.2.2.2.2.2.2.2.2.2.2.1
theorem d_MD_hasEdges_44 : decode prog_12_method_102_code 44 = .ok (.lcmp, 1) := F_MD_hasEdges_0.2.2.2.2.2.2.2.2.2.2.2.2.2.2.2.2.2.2.2.2.2.2.1
theorem d_MD_hasEdges_45 : decode prog_12_method_102_code 45 = .ok (.ifCond .gt (7), 3) := F_MD_hasEdges_0.2.2.2.2.2.2.2.2.2.2.2.2.2.2.2.2.2.2.2.2.2.2.2.1
theorem d_MD_hasEdges_48 : decode prog_12_method_102_code 48 = .ok (.iconst 1, 1) := F_MD_hasEdges_0.2.2.2.2.2.2.2.2.2.2.2.2.2.2.2.2.2.2.2.2.2.2.2.2.1
theorem d_MD_hasEdges_49 : decode prog_12_method_102_code 49 = .ok (.goto (4), 3) := F_MD_hasEdges_0.2.2.2.2.2.2.2.2.2.2.2.2.2.2.2.2.2.2.2.2.2.2.2.2.2.1
theorem d_MD_hasEdges_52 : decode prog_12_method_102_code 52 = .ok (.iconst 0, 1) := F_MD_hasEdges_0.2.2.2.2.2.2.2.2.2.2.2.2.2.2.2.2.2.2.2.2.2.2.2.2.2.2.1
theorem d_MD_hasEdges_53 : decode prog_12_method_102_code 53 = .ok (.ireturn, 1) := F_MD_hasEdges_0.2.2.2.2.2.2.2.2.2.2.2.2.2.2.2.2.2.2.2.2.2.2.2.2.2.2.2.1
theorem F_MD_cycle_0 : Jvm.Free.DS.Facts prog_12_method_106_code 0 [(.aload_n 0, 1), (.iconst 0, 1), (.putfield 74, 3), (.aload_n 0, 1), (.iload_n 1, 1), (.invokevirtual 241, 3), (.ifCond .eq (11), 3), (.aload_n 0, 1), (.iload_n 2, 1), (.invokevirtual 247, 3), (.ifCond .ne (5), 3), (.iconst (-1), 1), (.ireturn, 1), (.iconst 1, 1), (.istore_n 3, 1), (.iload_n 3, 1), (.bipush (20), 2), (.if_icmp .gt (32), 3), (.aload_n 0, 1), (.iload_n 1, 1), (.iload_n 2, 1), (.iload_n 3, 1), (.invokevirtual 365, 3), (.ifCond .ne (6), 3), (.bipush (-2), 2), (.ireturn, 1), (.aload_n 0, 1), (.iload_n 2, 1), (.invokevirtual 368, 3), (.ifCond .eq (5), 3), (.iload_n 3, 1), (.ireturn, 1)] := Jvm.Free.DS.facts 0 _ (by decide +kernel) (by decide +kernel)
theorem d_MD_cycle_0 : decode prog_12_method_106_code 0 = .ok (.aload_n 0, 1) := F_MD_cycle_0.1
theorem d_MD_cycle_1 : decode prog_12_method_106_code 1 = .ok (.iconst 0, 1) := F_MD_cycle_0.2.1
theorem d_MD_cycle_2 : decode prog_12_method_106_code 2 = .ok (.putfield 74, 3) := F_MD_cycle_0.2.2.1
theorem d_MD_cycle_5 : decode prog_12_method_106_code 5 = .ok (.aload_n 0, 1) := F_MD_cycle_0.2.2.2.1
theorem d_MD_cycle_6 : decode prog_12_method_106_code 6 = .ok (.iload_n 1, 1) := F_MD_cycle_0.2.2.2.2.1
theorem d_MD_cycle_7 : decode prog_12_method_106_code 7 = .ok (.invokevirtual 241, 3) := F_MD_cycle_0.2.2.2.2.2.1
theorem d_MD_cycle_10 : decode prog_12_method_106_code 10 = .ok (.ifCond .eq (11), 3) := F_MD_cycle_0.2.2.2.2.2.2.1
theorem d_MD_cycle_13 : decode prog_12_method_106_code 13 = .ok (.aload_n 0, 1) := F_MD_cycle_0.2.2.2.2.2.2.2.1
theorem d_MD_cycle_14 : decode prog_12_method_106_code 14 = .ok (.iload_n 2, 1) := F_MD_cycle_0.2.2.2.2.2.2.2.2.1
theorem d_MD_cycle_15 : decode prog_12_method_106_code 15 = .ok (.invokevirtual 247, 3) := F_MD_cycle_0.2.2.2.2.2.2.2.2.2.1
theorem d_MD_cycle_18 : decode prog_12_method_106_code 18 = .ok (.ifCond .ne (5), 3) := F_MD_cycle_0.2.2.2.2.2.2.2.2.2.2.1
theorem d_MD_cycle_21 : decode prog_12_method_106_code 21 = .ok (.iconst (-1), 1) := F_MD_cycle_0.2.2.2.2.2.2.2.2.2.2.2.1
theorem d_MD_cycle_22 : decode prog_12_method_106_code 22 = .ok (.ireturn, 1) := F_MD_cycle_0.2.2.2.2.2.2.2.2.2.2.2.2.1
theorem d_MD_cycle_23 : decode prog_12_method_106_code 23 = .ok (.iconst 1, 1) := F_MD_cycle_0.2.2.2.2.2.2.2.2.2.2.2.2.2.1
theorem d_MD_cycle_24 : decode prog_12_method_106_code 24 = .ok (.istore_n 3, 1) := F_MD_cycle_0.2.2.2.2.2.2.2.2.2.2.2.2.2.2.1
theorem d_MD_cycle_25 : decode prog_12_method_106_code 25 = .ok (.iload_n 3, 1) := F_MD_cycle_0.2.2.2.2.2.2.2.2.2.2.2.2.2.2.2.1
theorem d_MD_cycle_26 : decode prog_12_method_106_code 26 = .ok (.bipush (20), 2) := F_MD_cycle_0.2.2.2.2.2.2.2.2.2.2.2.2.2.2.2.2.1
theorem d_MD_cycle_28 : decode prog_12_method_106_code 28 = .ok (.if_icmp .gt (32), 3) := F_MD_cycle_0.2.2.2.2.2.2.2.2.2.2.2.2.2.2.2.2.2.1
theorem d_MD_cycle_31 : decode prog_12_method_106_code 31 = .ok (.aload_n 0, 1) := F_MD_cycle_0.2.2.2.2.2.2.2.2.2.2.2.2.2.2.2.2.2.2.1
theorem d_MD_cycle_32 : decode prog_12_method_106_code 32 = .ok (.iload_n 1, 1) := F_MD_cycle_0.2.2.2.2.2.2.2.2.2.2.2.2.2.2.2.2.2.2.2.1
theorem d_MD_cycle_33 : decode prog_12_method_106_code 33 = .ok (.iload_n 2, 1) := F_MD_cycle_0.2.2.2.2.2.2.2.2.2.2.2.2.2.2.2.2.2.2.2.2.1
theorem d_MD_cycle_34 : decode prog_12_method_106_code 34 = .ok (.iload_n 3, 1) := F_MD_cycle_0.2.2.2.2.2.2.2.2.2.2.2.2.2.2.2.2.2.2.2.2.2.1
theorem d_MD_cycle_35 : decode prog_12_method_106_code 35 = .ok (.invokevirtual 365, 3) := F_MD_cycle_0.2.2.2.2.2.2.2.2.2.2.2.2.2.2.2.2.2.2.2.2.2.2.1
theorem d_MD_cycle_38 : decode prog_12_method_106_code 38 = .ok (.ifCond .ne (6), 3) := F_MD_cycle_0.2.2.2.2.2.2.2.2.2.2.2.2.2.2.2.2.2.2.2.2.2.2.2.1
theorem d_MD_cycle_41 : decode prog_12_method_106_code 41 = .ok (.bipush (-2), 2) := F_MD_cycle_0.2.2.2.2.2.2.2.2.2.2.2.2.2.2.2.2.2.2.2.2.2.2.2.2.1
theorem d_MD_cycle_43 : decode prog_12_method_106_code 43 = .ok (.ireturn, 1) := F_MD_cycle_0.2.2.2.2.2.2.2.2.2.2.2.2.2.2.2.2.2.2.2.2.2.2.2.2.2.1
theorem d_MD_cycle_44 : decode prog_12_method_106_code 44 = .ok (.aload_n 0, 1) := F_MD_cycle_0.2.2.2.2.2.2.2.2.2.2.2.2.2.2.2.2.2.2.2.2.2.2.2.2.2.2.1
theorem d_MD_cycle_45 : decode prog_12_method_106_code 45 = .ok (.iload_n 2, 1) := F_MD_cycle_0.2.2.2.2.2.2.2.2.2.2.2.2.2.2.2.2.2.2.2.2.2.2.2.2.2.2.2.1
theorem d_MD_cycle_46 : decode prog_12_method_106_code 46 = .ok (.invokevirtual 368, 3) := F_MD_cycle_0.2.2.2.2.2.2.2.2.2.2.2.2.2.2.2.2.2.2.2.2.2.2.2.2.2.2.2.2.1
theorem d_MD_cycle_49 : decode prog_12_method_106_code 49 = .ok (.ifCond .eq (5), 3) := F_MD_cycle_0.2.2.2.2.2.2.2.2.2.2.2.2.2.2.2.2.2.2.2.2.2.2.2.2.2.2.2.2.2.1
theorem d_MD_cycle_52 : decode prog_12_method_106_code 52 = .ok (.iload_n 3, 1) := F_MD_cycle_0.2.2.2.2.2.2.2.2.2.2.2.2.2.2.2.2.2.2.2.2.2.2.2.2.2.2.2.2.2.2.1
theorem d_MD_cycle_53 : decode prog_12_method_106_code 53 = .ok (.ireturn, 1) := F_MD_cycle_0.2.2.2.2.2.2.2.2.2.2.2.2.2.2.2.2.2.2.2.2.2.2.2.2.2.2.2.2.2.2.2.1
theorem F_MD_cycle_54 : Jvm.Free.DS.Facts prog_12_method_106_code 54 [(.iinc 3 (1), 3), (.goto (-32), 3), (.bipush (-2), 2), (.ireturn, 1)] := Jvm.Free.DS.facts 54 _ (by decide +kernel) (by decide +kernel)
theorem d_MD_cycle_54 : decode prog_12_method_106_code 54 = .ok (.iinc 3 (1), 3) := F_MD_cycle_54.1
theorem d_MD_cycle_57 : decode prog_12_method_106_code 57 = .ok (.goto (-32), 3) := F_MD_cycle_54.2.1
theorem d_MD_cycle_60 : decode prog_12_method_106_code 60 = .ok (.bipush (-2), 2) := F_MD_cycle_54.2.2.1
theorem d_MD_cycle_62 : decode prog_12_method_106_code 62 = .ok (.ireturn, 1) := F_MD_cycle_54.2.2.2.1
theorem F_MD_isAt_0 : Jvm.Free.DS.Facts prog_12_method_103_code 0 [(.aload_n 0, 1), (.getfield 50, 3), (.iconst 0, 1), (.laload, 1), (.aload_n 0, 1), (.iload_n 1, 1), (.iconst 0, 1), (.invokevirtual 250, 3), (.lcmp, 1), (.ifCond .ne (39), 3), (.aload_n 0, 1), (.getfield 50, 3), (.iconst 1, 1), (.laload, 1), (.aload_n 0, 1), (.iload_n 1, 1), (.iconst 1, 1), (.invokevirtual 250, 3), (.lcmp, 1), (.ifCond .ne (23), 3), (.aload_n 0, 1), (.getfield 50, 3), (.iconst 2, 1), (.laload, 1), (.aload_n 0, 1), (.iload_n 1, 1), (.iconst 2, 1), (.invokevirtual 250, 3), (.lcmp, 1), (.ifCond .ne (7), 3), (.iconst 1, 1), (.goto (4), 3)] := Jvm.Free.DS.facts 0 _ (by decide +kernel) (by decide +kernel)
theorem d_MD_isAt_0 : decode prog_12_method_103_code 0 = .ok (.aload_n 0, 1) := F_MD_isAt_0.1
theorem d_MD_isAt_1 : decode prog_12_method_103_code 1 = .ok (.getfield 50, 3) := F_MD_isAt_0.2.1
theorem d_MD_isAt_4 : decode prog_12_method_103_code 4 = .ok (.iconst 0, 1) := F_MD_isAt_0.2.2.1
theorem d_MD_isAt_5 : decode prog_12_method_103_code 5 = .ok (.laload, 1) := F_MD_isAt_0.2.2.2.1
theorem d_MD_isAt_6 : decode prog_12_method_103_code 6 = .ok (.aload_n 0, 1) := F_MD_isAt_0.2.2.2.2.1
theorem d_MD_isAt_7 : decode prog_12_method_103_code 7 = .ok (.iload_n 1, 1) := F_MD_isAt_0.2.2.2.2.2.1
theorem d_MD_isAt_8 : decode prog_12_method_103_code 8 = .ok (.iconst 0, 1) := F_MD_isAt_0.2.2.2.2.2.2.1
theorem d_MD_isAt_9 : decode prog_12_method_103_code 9 = .ok (.invokevirtual 250, 3) := F_MD_isAt_0.2.2.2.2.2.2.2.1
theorem d_MD_isAt_12 : decode prog_12_method_103_code 12 = .ok (.lcmp, 1) := F_MD_isAt_0.2.2.2.2.2.2.2.2.1
theorem d_MD_isAt_13 : decode prog_12_method_103_code 13 = .ok (.ifCond .ne (39), 3) := F_MD_isAt_0.2.2.2.2.2.2.2.2.2.1
theorem d_MD_isAt_16 : decode prog_12_method_103_code 16 = .ok (.aload_n 0, 1) := F_MD_isAt_0.2.2.2.2.2.2.2.2.2.2.1
theorem d_MD_isAt_17 : decode prog_12_method_103_code 17 = .ok (.getfield 50, 3) := F_MD_isAt_0.2.2.2.2.2.2.2.2.2.2.2.1
theorem d_MD_isAt_20 : decode prog_12_method_103_code 20 = .ok (.iconst 1, 1) := F_MD_isAt_0.2.2.2.2.2.2.2.2.2.2.2.2.1
theorem d_MD_isAt_21 : decode prog_12_method_103_code 21 = .ok (.laload, 1) := F_MD_isAt_0.2.2.2.2.2.2.2.2.2.2.2.2.2.1
theorem d_MD_isAt_22 : decode prog_12_method_103_code 22 = .ok (.aload_n 0, 1) := F_MD_isAt_0.2.2.2.2.2.2.2.2.2.2.2.2.2.2.1
theorem d_MD_isAt_23 : decode prog_12_method_103_code 23 = .ok (.iload_n 1, 1) := F_MD_isAt_0.2.2.2.2.2.2.2.2.2.2.2.2.2.2.2.1
theorem d_MD_isAt_24 : decode prog_12_method_103_code 24 = .ok (.iconst 1, 1) := F_MD_isAt_0.2.2.2.2.2.2.2.2.2.2.2.2.2.2.2.2.1
theorem d_MD_isAt_25 : decode prog_12_method_103_code 25 = .ok (.invokevirtual 250, 3) := F_MD_isAt_0.2.2.2.2.2.2.2.2.2.2.2.2.2.2.2.2.2.1
theorem d_MD_isAt_28 : decode prog_12_method_103_code 28 = .ok (.lcmp, 1) := F_MD_isAt_0.2.2.2.2.2.2.2.2.2.2.2.2.2.2.2.2.2.2.1
theorem d_MD_isAt_29 : decode prog_12_method_103_code 29 = .ok (.ifCond .ne (23), 3) := F_MD_isAt_0.2.2.2.2.2.2.2.2.2.2.2.2.2.2.2.2.2.2.2.1
theorem d_MD_isAt_32 : decode prog_12_method_103_code 32 = .ok (.aload_n 0, 1) := F_MD_isAt_0.2.2.2.2.2.2.2.2.2.2.2.2.2.2.2.2.2.2.2.2.1
theorem d_MD_isAt_33 : decode prog_12_method_103_code 33 = .ok (.getfield 50, 3) := F_MD_isAt_0.2.2.2.2.2.2.2.2.2.2.2.2.2.2.2.2.2.2.2.2.2.1
theorem d_MD_isAt_36 : decode prog_12_method_103_code 36 = .ok (.iconst 2, 1) := F_MD_isAt_0.2.2.2.2.2.2.2.2.2.2.2.2.2.2.2.2.2.2.2.2.2.2.1
theorem d_MD_isAt_37 : decode prog_12_method_103_code 37 = .ok (.laload, 1) := F_MD_isAt_0.2.2.2.2.2.2.2.2.2.2.2.2.2.2.2.2.2.2.2.2.2.2.2.1
theorem d_MD_isAt_38 : decode prog_12_method_103_code 38 = .ok (.aload_n 0, 1) := F_MD_isAt_0.2.2.2.2.2.2.2.2.2.2.2.2.2.2.2.2.2.2.2.2.2.2.2.2.1
theorem d_MD_isAt_39 : decode prog_12_method_103_code 39 = .ok (.iload_n 1, 1) := F_MD_isAt_0.2.2.2.2.2.2.2.2.2.2.2.2.2.2.2.2.2.2.2.2.2.2.2.2.2.1
theorem d_MD_isAt_40 : decode prog_12_method_103_code 40 = .ok (.iconst 2, 1) := F_MD_isAt_0.2.2.2.2.2.2.2.2.2.2.2.2.2.2.2.2.2.2.2.2.2.2.2.2.2.2.1
theorem d_MD_isAt_41 : decode prog_12_method_103_code 41 = .ok (.invokevirtual 250, 3) := F_MD_isAt_0.2.2.2.2.2.2.2.2.2.2.2.2.2.2.2.2.2.2.2.2.2.2.2.2.2.2.2.1
theorem d_MD_isAt_44 : decode prog_12_method_103_code 44 = .ok (.lcmp, 1) := F_MD_isAt_0.2.2.2.2.2.2.2.2.2.2.2.2.2.2.2.2.2.2.2.2.2.2.2.2.2.2.2.2.1
theorem d_MD_isAt_45 : decode prog_12_method_103_code 45 = .ok (.ifCond .ne (7), 3) := F_MD_isAt_0.2.2.2.2.2.2.2.2.2.2.2.2.2.2.2.2.2.2.2.2.2.2.2.2.2.2.2.2.2.1
theorem d_MD_isAt_48 : decode prog_12_method_103_code 48 = .ok (.iconst 1, 1) := F_MD_isAt_0.2.2.2.2.2.2.2.2.2.2.2.2.2.2.2.2.2.2.2.2.2.2.2.2.2.2.2.2.2.2.1
theorem d_MD_isAt_49 : decode prog_12_method_103_code 49 = .ok (.goto (4), 3) := F_MD_isAt_0.2.2.2.2.2.2.2.2.2.2.2.2.2.2.2.2.2.2.2.2.2.2.2.2.2.2.2.2.2.2.2.1
theorem F_MD_isAt_52 : Jvm.Free.DS.Facts prog_12_method_103_code 52 [(.iconst 0, 1), (.ireturn, 1)] := Jvm.Free.DS.facts 52 _ (by decide +kernel) (by decide +kernel)
theorem d_MD_isAt_52 : decode prog_12_method_103_code 52 = .ok (.iconst 0, 1) := F_MD_isAt_52.1
theorem d_MD_isAt_53 : decode prog_12_method_103_code 53 = .ok (.ireturn, 1) := F_MD_isAt_52.2.1
theorem F_MD_leads_0 : Jvm.Free.DS.Facts prog_12_method_107_code 0 [(.aload_n 0, 1), (.iconst 0, 1), (.putfield 74, 3), (.aload_n 0, 1), (.iload_n 1, 1), (.invokevirtual 247, 3), (.ifCond .eq (21), 3), (.aload_n 0, 1), (.iload_n 2, 1), (.invokevirtual 247, 3), (.ifCond .eq (13), 3), (.iload_n 3, 1), (.iconst 1, 1), (.if_icmp .lt (8), 3), (.iload_n 3, 1), (.iconst 3, 1), (.if_icmp .le (5), 3), (.iconst (-1), 1), (.ireturn, 1), (.iconst 0, 1), (.istore 4, 2), (.iload 4, 2), (.i2l, 1), (.aload_n 0, 1), (.getfield 21, 3), (.sipush (168), 3), (.laload, 1), (.lcmp, 1), (.ifCond .ge (31), 3), (.aload_n 0, 1), (.iload 4, 2), (.iload_n 1, 1)] := Jvm.Free.DS.facts 0 _ (by decide +kernel) (by decide +kernel)
theorem d_MD_leads_0 : decode prog_12_method_107_code 0 = .ok (.aload_n 0, 1) := F_MD_leads_0.1
theorem d_MD_leads_1 : decode prog_12_method_107_code 1 = .ok (.iconst 0, 1) := F_MD_leads_0.2.1
theorem d_MD_leads_2 : decode prog_12_method_107_code 2 = .ok (.putfield 74, 3) := F_MD_leads_0.2.2.1
theorem d_MD_leads_5 : decode prog_12_method_107_code 5 = .ok (.aload_n 0, 1) := F_MD_leads_0.2.2.2.1
theorem d_MD_leads_6 : decode prog_12_method_107_code 6 = .ok (.iload_n 1, 1) := F_MD_leads_0.2.2.2.2.1
theorem d_MD_leads_7 : decode prog_12_method_107_code 7 = .ok (.invokevirtual 247, 3) := F_MD_leads_0.2.2.2.2.2.1
theorem d_MD_leads_10 : decode prog_12_method_107_code 10 = .ok (.ifCond .eq (21), 3) := F_MD_leads_0.2.2.2.2.2.2.1
theorem d_MD_leads_13 : decode prog_12_method_107_code 13 = .ok (.aload_n 0, 1) := F_MD_leads_0.2.2.2.2.2.2.2.1
theorem d_MD_leads_14 : decode prog_12_method_107_code 14 = .ok (.iload_n 2, 1) := F_MD_leads_0.2.2.2.2.2.2.2.2.1
theorem d_MD_leads_15 : decode prog_12_method_107_code 15 = .ok (.invokevirtual 247, 3) := F_MD_leads_0.2.2.2.2.2.2.2.2.2.1
theorem d_MD_leads_18 : decode prog_12_method_107_code 18 = .ok (.ifCond .eq (13), 3) := F_MD_leads_0.2.2.2.2.2.2.2.2.2.2.1
theorem d_MD_leads_21 : decode prog_12_method_107_code 21 = .ok (.iload_n 3, 1) := F_MD_leads_0.2.2.2.2.2.2.2.2.2.2.2.1
theorem d_MD_leads_22 : decode prog_12_method_107_code 22 = .ok (.iconst 1, 1) := F_MD_leads_0.2.2.2.2.2.2.2.2.2.2.2.2.1
theorem d_MD_leads_23 : decode prog_12_method_107_code 23 = .ok (.if_icmp .lt (8), 3) := F_MD_leads_0.2.2.2.2.2.2.2.2.2.2.2.2.2.1
theorem d_MD_leads_26 : decode prog_12_method_107_code 26 = .ok (.iload_n 3, 1) := F_MD_leads_0.2.2.2.2.2.2.2.2.2.2.2.2.2.2.1
theorem d_MD_leads_27 : decode prog_12_method_107_code 27 = .ok (.iconst 3, 1) := F_MD_leads_0.2.2.2.2.2.2.2.2.2.2.2.2.2.2.2.1
theorem d_MD_leads_28 : decode prog_12_method_107_code 28 = .ok (.if_icmp .le (5), 3) := F_MD_leads_0.2.2.2.2.2.2.2.2.2.2.2.2.2.2.2.2.1
theorem d_MD_leads_31 : decode prog_12_method_107_code 31 = .ok (.iconst (-1), 1) := F_MD_leads_0.2.2.2.2.2.2.2.2.2.2.2.2.2.2.2.2.2.1
theorem d_MD_leads_32 : decode prog_12_method_107_code 32 = .ok (.ireturn, 1) := F_MD_leads_0.2.2.2.2.2.2.2.2.2.2.2.2.2.2.2.2.2.2.1
theorem d_MD_leads_33 : decode prog_12_method_107_code 33 = .ok (.iconst 0, 1) := F_MD_leads_0.2.2.2.2.2.2.2.2.2.2.2.2.2.2.2.2.2.2.2.1
theorem d_MD_leads_34 : decode prog_12_method_107_code 34 = .ok (.istore 4, 2) := F_MD_leads_0.2.2.2.2.2.2.2.2.2.2.2.2.2.2.2.2.2.2.2.2.1
theorem d_MD_leads_36 : decode prog_12_method_107_code 36 = .ok (.iload 4, 2) := F_MD_leads_0.2.2.2.2.2.2.2.2.2.2.2.2.2.2.2.2.2.2.2.2.2.1
theorem d_MD_leads_38 : decode prog_12_method_107_code 38 = .ok (.i2l, 1) := F_MD_leads_0.2.2.2.2.2.2.2.2.2.2.2.2.2.2.2.2.2.2.2.2.2.2.1
theorem d_MD_leads_39 : decode prog_12_method_107_code 39 = .ok (.aload_n 0, 1) := F_MD_leads_0.2.2.2.2.2.2.2.2.2.2.2.2.2.2.2.2.2.2.2.2.2.2.2.1
theorem d_MD_leads_40 : decode prog_12_method_107_code 40 = .ok (.getfield 21, 3) := F_MD_leads_0.2.2.2.2.2.2.2.2.2.2.2.2.2.2.2.2.2.2.2.2.2.2.2.2.1
theorem d_MD_leads_43 : decode prog_12_method_107_code 43 = .ok (.sipush (168), 3) := F_MD_leads_0.2.2.2.2.2.2.2.2.2.2.2.2.2.2.2.2.2.2.2.2.2.2.2.2.2.1
theorem d_MD_leads_46 : decode prog_12_method_107_code 46 = .ok (.laload, 1) := F_MD_leads_0.2.2.2.2.2.2.2.2.2.2.2.2.2.2.2.2.2.2.2.2.2.2.2.2.2.2.1
theorem d_MD_leads_47 : decode prog_12_method_107_code 47 = .ok (.lcmp, 1) := F_MD_leads_0.2.2.2.2.2.2.2.2.2.2.2.2.2.2.2.2.2.2.2.2.2.2.2.2.2.2.2.1
theorem d_MD_leads_48 : decode prog_12_method_107_code 48 = .ok (.ifCond .ge (31), 3) := F_MD_leads_0.2.2.2.2.2.2.2.2.2.2.2.2.2.2.2.2.2.2.2.2.2.2.2.2.2.2.2.2.1
theorem d_MD_leads_51 : decode prog_12_method_107_code 51 = .ok (.aload_n 0, 1) := F_MD_leads_0.2.2.2.2.2.2.2.2.2.2.2.2.2.2.2.2.2.2.2.2.2.2.2.2.2.2.2.2.2.1
theorem d_MD_leads_52 : decode prog_12_method_107_code 52 = .ok (.iload 4, 2) := F_MD_leads_0.2.2.2.2.2.2.2.2.2.2.2.2.2.2.2.2.2.2.2.2.2.2.2.2.2.2.2.2.2.2.1
theorem d_MD_leads_54 : decode prog_12_method_107_code 54 = .ok (.iload_n 1, 1) := F_MD_leads_0.2.2.2.2.2.2.2.2.2.2.2.2.2.2.2.2.2.2.2.2.2.2.2.2.2.2.2.2.2.2.2.1
theorem F_MD_leads_55 : Jvm.Free.DS.Facts prog_12_method_107_code 55 [(.iload_n 3, 1), (.invokevirtual 365, 3), (.ifCond .eq (14), 3), (.aload_n 0, 1), (.iload_n 2, 1), (.invokevirtual 368, 3), (.ifCond .eq (6), 3), (.iload 4, 2), (.ireturn, 1), (.iinc 4 (1), 3), (.goto (-40), 3), (.bipush (-2), 2), (.ireturn, 1)] := Jvm.Free.DS.facts 55 _ (by decide +kernel) (by decide +kernel)
theorem d_MD_leads_55 : decode prog_12_method_107_code 55 = .ok (.iload_n 3, 1) := F_MD_leads_55.1
theorem d_MD_leads_56 : decode prog_12_method_107_code 56 = .ok (.invokevirtual 365, 3) := F_MD_leads_55.2.1
theorem d_MD_leads_59 : decode prog_12_method_107_code 59 = .ok (.ifCond .eq (14), 3) := F_MD_leads_55.2.2.1
theorem d_MD_leads_62 : decode prog_12_method_107_code 62 = .ok (.aload_n 0, 1) := F_MD_leads_55.2.2.2.1
theorem d_MD_leads_63 : decode prog_12_method_107_code 63 = .ok (.iload_n 2, 1) := F_MD_leads_55.2.2.2.2.1
theorem d_MD_leads_64 : decode prog_12_method_107_code 64 = .ok (.invokevirtual 368, 3) := F_MD_leads_55.2.2.2.2.2.1
theorem d_MD_leads_67 : decode prog_12_method_107_code 67 = .ok (.ifCond .eq (6), 3) := F_MD_leads_55.2.2.2.2.2.2.1
theorem d_MD_leads_70 : decode prog_12_method_107_code 70 = .ok (.iload 4, 2) := F_MD_leads_55.2.2.2.2.2.2.2.1
theorem d_MD_leads_72 : decode prog_12_method_107_code 72 = .ok (.ireturn, 1) := F_MD_leads_55.2.2.2.2.2.2.2.2.1
theorem d_MD_leads_73 : decode prog_12_method_107_code 73 = .ok (.iinc 4 (1), 3) := F_MD_leads_55.2.2.2.2.2.2.2.2.2.1
theorem d_MD_leads_76 : decode prog_12_method_107_code 76 = .ok (.goto (-40), 3) := F_MD_leads_55.2.2.2.2.2.2.2.2.2.2.1
theorem d_MD_leads_79 : decode prog_12_method_107_code 79 = .ok (.bipush (-2), 2) := F_MD_leads_55.2.2.2.2.2.2.2.2.2.2.2.1
theorem d_MD_leads_81 : decode prog_12_method_107_code 81 = .ok (.ireturn, 1) := F_MD_leads_55.2.2.2.2.2.2.2.2.2.2.2.2.1
theorem F_MD_whole_0 : Jvm.Free.DS.Facts prog_12_method_108_code 0 [(.aload_n 0, 1), (.iconst 0, 1), (.putfield 74, 3), (.aload_n 0, 1), (.iload_n 1, 1), (.invokevirtual 241, 3), (.ifCond .eq (13), 3), (.iload_n 2, 1), (.ifCond .lt (9), 3), (.iload_n 2, 1), (.bipush (9), 2), (.if_icmp .le (5), 3), (.iconst (-1), 1), (.ireturn, 1), (.aload_n 0, 1), (.aload_n 0, 1), (.getfield 44, 3), (.iload_n 1, 1), (.invokevirtual 274, 3), (.iconst 0, 1), (.istore_n 3, 1), (.iload_n 2, 1), (.ineg, 1), (.istore 4, 2), (.iload 4, 2), (.iload_n 2, 1), (.if_icmp .gt (59), 3), (.iload_n 2, 1), (.ineg, 1), (.istore 5, 2), (.iload 5, 2), (.iload_n 2, 1)] := Jvm.Free.DS.facts 0 _ (by decide +kernel) (by decide +kernel)
theorem d_MD_whole_0 : decode prog_12_method_108_code 0 = .ok (.aload_n 0, 1) := F_MD_whole_0.1
theorem d_MD_whole_1 : decode prog_12_method_108_code 1 = .ok (.iconst 0, 1) := F_MD_whole_0.2.1
theorem d_MD_whole_2 : decode prog_12_method_108_code 2 = .ok (.putfield 74, 3) := F_MD_whole_0.2.2.1
theorem d_MD_whole_5 : decode prog_12_method_108_code 5 = .ok (.aload_n 0, 1) := F_MD_whole_0.2.2.2.1
theorem d_MD_whole_6 : decode prog_12_method_108_code 6 = .ok (.iload_n 1, 1) := F_MD_whole_0.2.2.2.2.1
theorem d_MD_whole_7 : decode prog_12_method_108_code 7 = .ok (.invokevirtual 241, 3) := F_MD_whole_0.2.2.2.2.2.1
theorem d_MD_whole_10 : decode prog_12_method_108_code 10 = .ok (.ifCond .eq (13), 3) := F_MD_whole_0.2.2.2.2.2.2.1
theorem d_MD_whole_13 : decode prog_12_method_108_code 13 = .ok (.iload_n 2, 1) := F_MD_whole_0.2.2.2.2.2.2.2.1
theorem d_MD_whole_14 : decode prog_12_method_108_code 14 = .ok (.ifCond .lt (9), 3) := F_MD_whole_0.2.2.2.2.2.2.2.2.1
theorem d_MD_whole_17 : decode prog_12_method_108_code 17 = .ok (.iload_n 2, 1) := F_MD_whole_0.2.2.2.2.2.2.2.2.2.1
theorem d_MD_whole_18 : decode prog_12_method_108_code 18 = .ok (.bipush (9), 2) := F_MD_whole_0.2.2.2.2.2.2.2.2.2.2.1
theorem d_MD_whole_20 : decode prog_12_method_108_code 20 = .ok (.if_icmp .le (5), 3) := F_MD_whole_0.2.2.2.2.2.2.2.2.2.2.2.1
theorem d_MD_whole_23 : decode prog_12_method_108_code 23 = .ok (.iconst (-1), 1) := F_MD_whole_0.2.2.2.2.2.2.2.2.2.2.2.2.1
theorem d_MD_whole_24 : decode prog_12_method_108_code 24 = .ok (.ireturn, 1) := F_MD_whole_0.2.2.2.2.2.2.2.2.2.2.2.2.2.1
theorem d_MD_whole_25 : decode prog_12_method_108_code 25 = .ok (.aload_n 0, 1) := F_MD_whole_0.2.2.2.2.2.2.2.2.2.2.2.2.2.2.1
theorem d_MD_whole_26 : decode prog_12_method_108_code 26 = .ok (.aload_n 0, 1) := F_MD_whole_0.2.2.2.2.2.2.2.2.2.2.2.2.2.2.2.1
theorem d_MD_whole_27 : decode prog_12_method_108_code 27 = .ok (.getfield 44, 3) := F_MD_whole_0.2.2.2.2.2.2.2.2.2.2.2.2.2.2.2.2.1
theorem d_MD_whole_30 : decode prog_12_method_108_code 30 = .ok (.iload_n 1, 1) := F_MD_whole_0.2.2.2.2.2.2.2.2.2.2.2.2.2.2.2.2.2.1
theorem d_MD_whole_31 : decode prog_12_method_108_code 31 = .ok (.invokevirtual 274, 3) := F_MD_whole_0.2.2.2.2.2.2.2.2.2.2.2.2.2.2.2.2.2.2.1
theorem d_MD_whole_34 : decode prog_12_method_108_code 34 = .ok (.iconst 0, 1) := F_MD_whole_0.2.2.2.2.2.2.2.2.2.2.2.2.2.2.2.2.2.2.2.1
theorem d_MD_whole_35 : decode prog_12_method_108_code 35 = .ok (.istore_n 3, 1) := F_MD_whole_0.2.2.2.2.2.2.2.2.2.2.2.2.2.2.2.2.2.2.2.2.1
theorem d_MD_whole_36 : decode prog_12_method_108_code 36 = .ok (.iload_n 2, 1) := F_MD_whole_0.2.2.2.2.2.2.2.2.2.2.2.2.2.2.2.2.2.2.2.2.2.1
theorem d_MD_whole_37 : decode prog_12_method_108_code 37 = .ok (.ineg, 1) := F_MD_whole_0.2.2.2.2.2.2.2.2.2.2.2.2.2.2.2.2.2.2.2.2.2.2.1
theorem d_MD_whole_38 : decode prog_12_method_108_code 38 = .ok (.istore 4, 2) := F_MD_whole_0.2.2.2.2.2.2.2.2.2.2.2.2.2.2.2.2.2.2.2.2.2.2.2.1
theorem d_MD_whole_40 : decode prog_12_method_108_code 40 = .ok (.iload 4, 2) := F_MD_whole_0.2.2.2.2.2.2.2.2.2.2.2.2.2.2.2.2.2.2.2.2.2.2.2.2.1
theorem d_MD_whole_42 : decode prog_12_method_108_code 42 = .ok (.iload_n 2, 1) := F_MD_whole_0.2.2.2.2.2.2.2.2.2.2.2.2.2.2.2.2.2.2.2.2.2.2.2.2.2.1
theorem d_MD_whole_43 : decode prog_12_method_108_code 43 = .ok (.if_icmp .gt (59), 3) := F_MD_whole_0.2.2.2.2.2.2.2.2.2.2.2.2.2.2.2.2.2.2.2.2.2.2.2.2.2.2.1
theorem d_MD_whole_46 : decode prog_12_method_108_code 46 = .ok (.iload_n 2, 1) := F_MD_whole_0.2.2.2.2.2.2.2.2.2.2.2.2.2.2.2.2.2.2.2.2.2.2.2.2.2.2.2.1
theorem d_MD_whole_47 : decode prog_12_method_108_code 47 = .ok (.ineg, 1) := F_MD_whole_0.2.2.2.2.2.2.2.2.2.2.2.2.2.2.2.2.2.2.2.2.2.2.2.2.2.2.2.2.1
theorem d_MD_whole_48 : decode prog_12_method_108_code 48 = .ok (.istore 5, 2) := F_MD_whole_0.2.2.2.2.2.2.2.2.2.2.2.2.2.2.2.2.2.2.2.2.2.2.2.2.2.2.2.2.2.1
theorem d_MD_whole_50 : decode prog_12_method_108_code 50 = .ok (.iload 5, 2) := F_MD_whole_0.2.2.2.2.2.2.2.2.2.2.2.2.2.2.2.2.2.2.2.2.2.2.2.2.2.2.2.2.2.2.1
theorem d_MD_whole_52 : decode prog_12_method_108_code 52 = .ok (.iload_n 2, 1) := F_MD_whole_0.2.2.2.2.2.2.2.2.2.2.2.2.2.2.2.2.2.2.2.2.2.2.2.2.2.2.2.2.2.2.2.1
theorem F_MD_whole_53 : Jvm.Free.DS.Facts prog_12_method_108_code 53 [(.if_icmp .gt (43), 3), (.aload_n 0, 1), (.aload_n 0, 1), (.getfield 44, 3), (.iload 4, 2), (.i2l, 1), (.iload 5, 2), (.i2l, 1), (.lconst 1, 1), (.invokevirtual 294, 3), (.iload_n 3, 1), (.aload_n 0, 1), (.getfield 50, 3), (.iconst 2, 1), (.laload, 1), (.lconst 1, 1), (.lcmp, 1), (.ifCond .ne (7), 3), (.iconst 1, 1), (.goto (4), 3), (.iconst 0, 1), (.iadd, 1), (.istore_n 3, 1), (.iinc 5 (1), 3), (.goto (-43), 3), (.iinc 4 (1), 3), (.goto (-59), 3), (.iload_n 3, 1), (.ireturn, 1)] := Jvm.Free.DS.facts 53 _ (by decide +kernel) (by decide +kernel)
theorem d_MD_whole_53 : decode prog_12_method_108_code 53 = .ok (.if_icmp .gt (43), 3) := F_MD_whole_53.1
theorem d_MD_whole_56 : decode prog_12_method_108_code 56 = .ok (.aload_n 0, 1) := F_MD_whole_53.2.1
theorem d_MD_whole_57 : decode prog_12_method_108_code 57 = .ok (.aload_n 0, 1) := F_MD_whole_53.2.2.1
theorem d_MD_whole_58 : decode prog_12_method_108_code 58 = .ok (.getfield 44, 3) := F_MD_whole_53.2.2.2.1
theorem d_MD_whole_61 : decode prog_12_method_108_code 61 = .ok (.iload 4, 2) := F_MD_whole_53.2.2.2.2.1
theorem d_MD_whole_63 : decode prog_12_method_108_code 63 = .ok (.i2l, 1) := F_MD_whole_53.2.2.2.2.2.1
theorem d_MD_whole_64 : decode prog_12_method_108_code 64 = .ok (.iload 5, 2) := F_MD_whole_53.2.2.2.2.2.2.1
theorem d_MD_whole_66 : decode prog_12_method_108_code 66 = .ok (.i2l, 1) := F_MD_whole_53.2.2.2.2.2.2.2.1
theorem d_MD_whole_67 : decode prog_12_method_108_code 67 = .ok (.lconst 1, 1) := F_MD_whole_53.2.2.2.2.2.2.2.2.1
theorem d_MD_whole_68 : decode prog_12_method_108_code 68 = .ok (.invokevirtual 294, 3) := F_MD_whole_53.2.2.2.2.2.2.2.2.2.1
theorem d_MD_whole_71 : decode prog_12_method_108_code 71 = .ok (.iload_n 3, 1) := F_MD_whole_53.2.2.2.2.2.2.2.2.2.2.1
theorem d_MD_whole_72 : decode prog_12_method_108_code 72 = .ok (.aload_n 0, 1) := F_MD_whole_53.2.2.2.2.2.2.2.2.2.2.2.1
theorem d_MD_whole_73 : decode prog_12_method_108_code 73 = .ok (.getfield 50, 3) := F_MD_whole_53.2.2.2.2.2.2.2.2.2.2.2.2.1
theorem d_MD_whole_76 : decode prog_12_method_108_code 76 = .ok (.iconst 2, 1) := F_MD_whole_53.2.2.2.2.2.2.2.2.2.2.2.2.2.1
theorem d_MD_whole_77 : decode prog_12_method_108_code 77 = .ok (.laload, 1) := F_MD_whole_53.2.2.2.2.2.2.2.2.2.2.2.2.2.2.1
theorem d_MD_whole_78 : decode prog_12_method_108_code 78 = .ok (.lconst 1, 1) := F_MD_whole_53.2.2.2.2.2.2.2.2.2.2.2.2.2.2.2.1
theorem d_MD_whole_79 : decode prog_12_method_108_code 79 = .ok (.lcmp, 1) := F_MD_whole_53.2.2.2.2.2.2.2.2.2.2.2.2.2.2.2.2.1
theorem d_MD_whole_80 : decode prog_12_method_108_code 80 = .ok (.ifCond .ne (7), 3) := F_MD_whole_53.2.2.2.2.2.2.2.2.2.2.2.2.2.2.2.2.2.1
theorem d_MD_whole_83 : decode prog_12_method_108_code 83 = .ok (.iconst 1, 1) := F_MD_whole_53.2.2.2.2.2.2.2.2.2.2.2.2.2.2.2.2.2.2.1
theorem d_MD_whole_84 : decode prog_12_method_108_code 84 = .ok (.goto (4), 3) := F_MD_whole_53.2.2.2.2.2.2.2.2.2.2.2.2.2.2.2.2.2.2.2.1
theorem d_MD_whole_87 : decode prog_12_method_108_code 87 = .ok (.iconst 0, 1) := F_MD_whole_53.2.2.2.2.2.2.2.2.2.2.2.2.2.2.2.2.2.2.2.2.1
theorem d_MD_whole_88 : decode prog_12_method_108_code 88 = .ok (.iadd, 1) := F_MD_whole_53.2.2.2.2.2.2.2.2.2.2.2.2.2.2.2.2.2.2.2.2.2.1
theorem d_MD_whole_89 : decode prog_12_method_108_code 89 = .ok (.istore_n 3, 1) := F_MD_whole_53.2.2.2.2.2.2.2.2.2.2.2.2.2.2.2.2.2.2.2.2.2.2.1
theorem d_MD_whole_90 : decode prog_12_method_108_code 90 = .ok (.iinc 5 (1), 3) := F_MD_whole_53.2.2.2.2.2.2.2.2.2.2.2.2.2.2.2.2.2.2.2.2.2.2.2.1
theorem d_MD_whole_93 : decode prog_12_method_108_code 93 = .ok (.goto (-43), 3) := F_MD_whole_53.2.2.2.2.2.2.2.2.2.2.2.2.2.2.2.2.2.2.2.2.2.2.2.2.1
theorem d_MD_whole_96 : decode prog_12_method_108_code 96 = .ok (.iinc 4 (1), 3) := F_MD_whole_53.2.2.2.2.2.2.2.2.2.2.2.2.2.2.2.2.2.2.2.2.2.2.2.2.2.1
theorem d_MD_whole_99 : decode prog_12_method_108_code 99 = .ok (.goto (-59), 3) := F_MD_whole_53.2.2.2.2.2.2.2.2.2.2.2.2.2.2.2.2.2.2.2.2.2.2.2.2.2.2.1
theorem d_MD_whole_102 : decode prog_12_method_108_code 102 = .ok (.iload_n 3, 1) := F_MD_whole_53.2.2.2.2.2.2.2.2.2.2.2.2.2.2.2.2.2.2.2.2.2.2.2.2.2.2.2.1
theorem d_MD_whole_103 : decode prog_12_method_108_code 103 = .ok (.ireturn, 1) := F_MD_whole_53.2.2.2.2.2.2.2.2.2.2.2.2.2.2.2.2.2.2.2.2.2.2.2.2.2.2.2.2.1
theorem F_MD_inside_0 : Jvm.Free.DS.Facts prog_12_method_112_code 0 [(.aload_n 0, 1), (.iconst 0, 1), (.putfield 74, 3), (.aload_n 0, 1), (.iload_n 1, 1), (.invokevirtual 238, 3), (.ifCond .eq (11), 3), (.aload_n 0, 1), (.iload_n 2, 1), (.invokevirtual 247, 3), (.ifCond .ne (5), 3), (.iconst (-1), 1), (.ireturn, 1), (.aload_n 0, 1), (.iload_n 2, 1), (.iconst 0, 1), (.invokevirtual 250, 3), (.lstore_n 3, 1), (.aload_n 0, 1), (.iload_n 2, 1), (.iconst 1, 1), (.invokevirtual 250, 3), (.lstore 5, 2), (.aload_n 0, 1), (.iload_n 2, 1), (.iconst 2, 1), (.invokevirtual 250, 3), (.lstore 7, 2), (.lload 7, 2), (.lconst 0, 1), (.lcmp, 1), (.ifCond .ne (6), 3)] := Jvm.Free.DS.facts 0 _ (by decide +kernel) (by decide +kernel)
theorem d_MD_inside_0 : decode prog_12_method_112_code 0 = .ok (.aload_n 0, 1) := F_MD_inside_0.1
theorem d_MD_inside_1 : decode prog_12_method_112_code 1 = .ok (.iconst 0, 1) := F_MD_inside_0.2.1
theorem d_MD_inside_2 : decode prog_12_method_112_code 2 = .ok (.putfield 74, 3) := F_MD_inside_0.2.2.1
theorem d_MD_inside_5 : decode prog_12_method_112_code 5 = .ok (.aload_n 0, 1) := F_MD_inside_0.2.2.2.1
theorem d_MD_inside_6 : decode prog_12_method_112_code 6 = .ok (.iload_n 1, 1) := F_MD_inside_0.2.2.2.2.1
theorem d_MD_inside_7 : decode prog_12_method_112_code 7 = .ok (.invokevirtual 238, 3) := F_MD_inside_0.2.2.2.2.2.1
theorem d_MD_inside_10 : decode prog_12_method_112_code 10 = .ok (.ifCond .eq (11), 3) := F_MD_inside_0.2.2.2.2.2.2.1
theorem d_MD_inside_13 : decode prog_12_method_112_code 13 = .ok (.aload_n 0, 1) := F_MD_inside_0.2.2.2.2.2.2.2.1
theorem d_MD_inside_14 : decode prog_12_method_112_code 14 = .ok (.iload_n 2, 1) := F_MD_inside_0.2.2.2.2.2.2.2.2.1
theorem d_MD_inside_15 : decode prog_12_method_112_code 15 = .ok (.invokevirtual 247, 3) := F_MD_inside_0.2.2.2.2.2.2.2.2.2.1
theorem d_MD_inside_18 : decode prog_12_method_112_code 18 = .ok (.ifCond .ne (5), 3) := F_MD_inside_0.2.2.2.2.2.2.2.2.2.2.1
theorem d_MD_inside_21 : decode prog_12_method_112_code 21 = .ok (.iconst (-1), 1) := F_MD_inside_0.2.2.2.2.2.2.2.2.2.2.2.1
theorem d_MD_inside_22 : decode prog_12_method_112_code 22 = .ok (.ireturn, 1) := F_MD_inside_0.2.2.2.2.2.2.2.2.2.2.2.2.1
theorem d_MD_inside_23 : decode prog_12_method_112_code 23 = .ok (.aload_n 0, 1) := F_MD_inside_0.2.2.2.2.2.2.2.2.2.2.2.2.2.1
theorem d_MD_inside_24 : decode prog_12_method_112_code 24 = .ok (.iload_n 2, 1) := F_MD_inside_0.2.2.2.2.2.2.2.2.2.2.2.2.2.2.1
theorem d_MD_inside_25 : decode prog_12_method_112_code 25 = .ok (.iconst 0, 1) := F_MD_inside_0.2.2.2.2.2.2.2.2.2.2.2.2.2.2.2.1
theorem d_MD_inside_26 : decode prog_12_method_112_code 26 = .ok (.invokevirtual 250, 3) := F_MD_inside_0.2.2.2.2.2.2.2.2.2.2.2.2.2.2.2.2.1
theorem d_MD_inside_29 : decode prog_12_method_112_code 29 = .ok (.lstore_n 3, 1) := F_MD_inside_0.2.2.2.2.2.2.2.2.2.2.2.2.2.2.2.2.2.1
theorem d_MD_inside_30 : decode prog_12_method_112_code 30 = .ok (.aload_n 0, 1) := F_MD_inside_0.2.2.2.2.2.2.2.2.2.2.2.2.2.2.2.2.2.2.1
theorem d_MD_inside_31 : decode prog_12_method_112_code 31 = .ok (.iload_n 2, 1) := F_MD_inside_0.2.2.2.2.2.2.2.2.2.2.2.2.2.2.2.2.2.2.2.1
theorem d_MD_inside_32 : decode prog_12_method_112_code 32 = .ok (.iconst 1, 1) := F_MD_inside_0.2.2.2.2.2.2.2.2.2.2.2.2.2.2.2.2.2.2.2.2.1
theorem d_MD_inside_33 : decode prog_12_method_112_code 33 = .ok (.invokevirtual 250, 3) := F_MD_inside_0.2.2.2.2.2.2.2.2.2.2.2.2.2.2.2.2.2.2.2.2.2.1
theorem d_MD_inside_36 : decode prog_12_method_112_code 36 = .ok (.lstore 5, 2) := F_MD_inside_0.2.2.2.2.2.2.2.2.2.2.2.2.2.2.2.2.2.2.2.2.2.2.1
theorem d_MD_inside_38 : decode prog_12_method_112_code 38 = .ok (.aload_n 0, 1) := F_MD_inside_0.2.2.2.2.2.2.2.2.2.2.2.2.2.2.2.2.2.2.2.2.2.2.2.1
theorem d_MD_inside_39 : decode prog_12_method_112_code 39 = .ok (.iload_n 2, 1) := F_MD_inside_0.2.2.2.2.2.2.2.2.2.2.2.2.2.2.2.2.2.2.2.2.2.2.2.2.1
theorem d_MD_inside_40 : decode prog_12_method_112_code 40 = .ok (.iconst 2, 1) := F_MD_inside_0.2.2.2.2.2.2.2.2.2.2.2.2.2.2.2.2.2.2.2.2.2.2.2.2.2.1
theorem d_MD_inside_41 : decode prog_12_method_112_code 41 = .ok (.invokevirtual 250, 3) := F_MD_inside_0.2.2.2.2.2.2.2.2.2.2.2.2.2.2.2.2.2.2.2.2.2.2.2.2.2.2.1
theorem d_MD_inside_44 : decode prog_12_method_112_code 44 = .ok (.lstore 7, 2) := F_MD_inside_0.2.2.2.2.2.2.2.2.2.2.2.2.2.2.2.2.2.2.2.2.2.2.2.2.2.2.2.1
theorem d_MD_inside_46 : decode prog_12_method_112_code 46 = .ok (.lload 7, 2) := F_MD_inside_0.2.2.2.2.2.2.2.2.2.2.2.2.2.2.2.2.2.2.2.2.2.2.2.2.2.2.2.2.1
theorem d_MD_inside_48 : decode prog_12_method_112_code 48 = .ok (.lconst 0, 1) := F_MD_inside_0.2.2.2.2.2.2.2.2.2.2.2.2.2.2.2.2.2.2.2.2.2.2.2.2.2.2.2.2.2.1
theorem d_MD_inside_49 : decode prog_12_method_112_code 49 = .ok (.lcmp, 1) := F_MD_inside_0.2.2.2.2.2.2.2.2.2.2.2.2.2.2.2.2.2.2.2.2.2.2.2.2.2.2.2.2.2.2.1
theorem d_MD_inside_50 : decode prog_12_method_112_code 50 = .ok (.ifCond .ne (6), 3) := F_MD_inside_0.2.2.2.2.2.2.2.2.2.2.2.2.2.2.2.2.2.2.2.2.2.2.2.2.2.2.2.2.2.2.2.1
theorem F_MD_inside_53 : Jvm.Free.DS.Facts prog_12_method_112_code 53 [(.bipush (-2), 2), (.ireturn, 1), (.aload_n 0, 1), (.iload_n 1, 1), (.invokevirtual 258, 3), (.bipush (-2), 2), (.if_icmp .ne (30), 3), (.aload_n 0, 1), (.iload_n 1, 1), (.iconst 0, 1), (.iconst 1, 1), (.iconst 2, 1), (.iconst 3, 1), (.invokevirtual 261, 3), (.ifCond .ne (15), 3), (.aload_n 0, 1), (.iload_n 1, 1), (.iconst 1, 1), (.iconst 2, 1), (.iconst 3, 1), (.iconst 0, 1), (.invokevirtual 261, 3), (.ifCond .eq (6), 3), (.bipush (-3), 2), (.ireturn, 1), (.iconst 0, 1), (.istore 9, 2), (.iconst 0, 1), (.istore 10, 2), (.iload 10, 2), (.iconst 4, 1), (.if_icmp .ge (152), 3)] := Jvm.Free.DS.facts 53 _ (by decide +kernel) (by decide +kernel)
theorem d_MD_inside_53 : decode prog_12_method_112_code 53 = .ok (.bipush (-2), 2) := F_MD_inside_53.1
theorem d_MD_inside_55 : decode prog_12_method_112_code 55 = .ok (.ireturn, 1) := F_MD_inside_53.2.1
theorem d_MD_inside_56 : decode prog_12_method_112_code 56 = .ok (.aload_n 0, 1) := F_MD_inside_53.2.2.1
theorem d_MD_inside_57 : decode prog_12_method_112_code 57 = .ok (.iload_n 1, 1) := F_MD_inside_53.2.2.2.1
theorem d_MD_inside_58 : decode prog_12_method_112_code 58 = .ok (.invokevirtual 258, 3) := F_MD_inside_53.2.2.2.2.1
theorem d_MD_inside_61 : decode prog_12_method_112_code 61 = .ok (.bipush (-2), 2) := F_MD_inside_53.2.2.2.2.2.1
theorem d_MD_inside_63 : decode prog_12_method_112_code 63 = .ok (.if_icmp .ne (30), 3) := F_MD_inside_53.2.2.2.2.2.2.1
theorem d_MD_inside_66 : decode prog_12_method_112_code 66 = .ok (.aload_n 0, 1) := F_MD_inside_53.2.2.2.2.2.2.2.1
theorem d_MD_inside_67 : decode prog_12_method_112_code 67 = .ok (.iload_n 1, 1) := F_MD_inside_53.2.2.2.2.2.2.2.2.1
theorem d_MD_inside_68 : decode prog_12_method_112_code 68 = .ok (.iconst 0, 1) := F_MD_inside_53.2.2.2.2.2.2.2.2.2.1
theorem d_MD_inside_69 : decode prog_12_method_112_code 69 = .ok (.iconst 1, 1) := F_MD_inside_53.2.2.2.2.2.2.2.2.2.2.1
theorem d_MD_inside_70 : decode prog_12_method_112_code 70 = .ok (.iconst 2, 1) := F_MD_inside_53.2.2.2.2.2.2.2.2.2.2.2.1
theorem d_MD_inside_71 : decode prog_12_method_112_code 71 = .ok (.iconst 3, 1) := F_MD_inside_53.2.2.2.2.2.2.2.2.2.2.2.2.1
theorem d_MD_inside_72 : decode prog_12_method_112_code 72 = .ok (.invokevirtual 261, 3) := F_MD_inside_53.2.2.2.2.2.2.2.2.2.2.2.2.2.1
theorem d_MD_inside_75 : decode prog_12_method_112_code 75 = .ok (.ifCond .ne (15), 3) := F_MD_inside_53.2.2.2.2.2.2.2.2.2.2.2.2.2.2.1
theorem d_MD_inside_78 : decode prog_12_method_112_code 78 = .ok (.aload_n 0, 1) := F_MD_inside_53.2.2.2.2.2.2.2.2.2.2.2.2.2.2.2.1
theorem d_MD_inside_79 : decode prog_12_method_112_code 79 = .ok (.iload_n 1, 1) := F_MD_inside_53.2.2.2.2.2.2.2.2.2.2.2.2.2.2.2.2.1
theorem d_MD_inside_80 : decode prog_12_method_112_code 80 = .ok (.iconst 1, 1) := F_MD_inside_53.2.2.2.2.2.2.2.2.2.2.2.2.2.2.2.2.2.1
theorem d_MD_inside_81 : decode prog_12_method_112_code 81 = .ok (.iconst 2, 1) := F_MD_inside_53.2.2.2.2.2.2.2.2.2.2.2.2.2.2.2.2.2.2.1
theorem d_MD_inside_82 : decode prog_12_method_112_code 82 = .ok (.iconst 3, 1) := F_MD_inside_53.2.2.2.2.2.2.2.2.2.2.2.2.2.2.2.2.2.2.2.1
theorem d_MD_inside_83 : decode prog_12_method_112_code 83 = .ok (.iconst 0, 1) := F_MD_inside_53.2.2.2.2.2.2.2.2.2.2.2.2.2.2.2.2.2.2.2.2.1
theorem d_MD_inside_84 : decode prog_12_method_112_code 84 = .ok (.invokevirtual 261, 3) := F_MD_inside_53.2.2.2.2.2.2.2.2.2.2.2.2.2.2.2.2.2.2.2.2.2.1
theorem d_MD_inside_87 : decode prog_12_method_112_code 87 = .ok (.ifCond .eq (6), 3) := F_MD_inside_53.2.2.2.2.2.2.2.2.2.2.2.2.2.2.2.2.2.2.2.2.2.2.1
theorem d_MD_inside_90 : decode prog_12_method_112_code 90 = .ok (.bipush (-3), 2) := F_MD_inside_53.2.2.2.2.2.2.2.2.2.2.2.2.2.2.2.2.2.2.2.2.2.2.2.1
theorem d_MD_inside_92 : decode prog_12_method_112_code 92 = .ok (.ireturn, 1) := F_MD_inside_53.2.2.2.2.2.2.2.2.2.2.2.2.2.2.2.2.2.2.2.2.2.2.2.2.1
theorem d_MD_inside_93 : decode prog_12_method_112_code 93 = .ok (.iconst 0, 1) := F_MD_inside_53.2.2.2.2.2.2.2.2.2.2.2.2.2.2.2.2.2.2.2.2.2.2.2.2.2.1
theorem d_MD_inside_94 : decode prog_12_method_112_code 94 = .ok (.istore 9, 2) := F_MD_inside_53.2.2.2.2.2.2.2.2.2.2.2.2.2.2.2.2.2.2.2.2.2.2.2.2.2.2.1
theorem d_MD_inside_96 : decode prog_12_method_112_code 96 = .ok (.iconst 0, 1) := F_MD_inside_53.2.2.2.2.2.2.2.2.2.2.2.2.2.2.2.2.2.2.2.2.2.2.2.2.2.2.2.1
theorem d_MD_inside_97 : decode prog_12_method_112_code 97 = .ok (.istore 10, 2) := F_MD_inside_53.2.2.2.2.2.2.2.2.2.2.2.2.2.2.2.2.2.2.2.2.2.2.2.2.2.2.2.2.1
theorem d_MD_inside_99 : decode prog_12_method_112_code 99 = .ok (.iload 10, 2) := F_MD_inside_53.2.2.2.2.2.2.2.2.2.2.2.2.2.2.2.2.2.2.2.2.2.2.2.2.2.2.2.2.2.1
theorem d_MD_inside_101 : decode prog_12_method_112_code 101 = .ok (.iconst 4, 1) := F_MD_inside_53.2.2.2.2.2.2.2.2.2.2.2.2.2.2.2.2.2.2.2.2.2.2.2.2.2.2.2.2.2.2.1
theorem d_MD_inside_102 : decode prog_12_method_112_code 102 = .ok (.if_icmp .ge (152), 3) := F_MD_inside_53.2.2.2.2.2.2.2.2.2.2.2.2.2.2.2.2.2.2.2.2.2.2.2.2.2.2.2.2.2.2.2.1
theorem F_MD_inside_105 : Jvm.Free.DS.Facts prog_12_method_112_code 105 [(.aload_n 0, 1), (.iload_n 1, 1), (.iload 10, 2), (.lload_n 3, 1), (.lload 5, 2), (.lload 7, 2), (.invokevirtual 385, 3), (.ifCond .eq (5), 3), (.iconst 2, 1), (.ireturn, 1), (.aload_n 0, 1), (.getfield 15, 3), (.bipush (8), 2), (.iload_n 1, 1), (.imul, 1), (.iconst 2, 1), (.iload 10, 2), (.imul, 1), (.iadd, 1), (.iconst 1, 1), (.iadd, 1), (.iaload, 1), (.i2l, 1), (.lload 7, 2), (.lmul, 1), (.lload 5, 2), (.lcmp, 1), (.ifCond .gt (7), 3), (.iconst 1, 1), (.goto (4), 3), (.iconst 0, 1), (.istore 11, 2)] := Jvm.Free.DS.facts 105 _ (by decide +kernel) (by decide +kernel)
theorem d_MD_inside_105 : decode prog_12_method_112_code 105 = .ok (.aload_n 0, 1) := F_MD_inside_105.1
theorem d_MD_inside_106 : decode prog_12_method_112_code 106 = .ok (.iload_n 1, 1) := F_MD_inside_105.2.1
theorem d_MD_inside_107 : decode prog_12_method_112_code 107 = .ok (.iload 10, 2) := F_MD_inside_105.2.2.1
theorem d_MD_inside_109 : decode prog_12_method_112_code 109 = .ok (.lload_n 3, 1) := F_MD_inside_105.2.2.2.1
theorem d_MD_inside_110 : decode prog_12_method_112_code 110 = .ok (.lload 5, 2) := F_MD_inside_105.2.2.2.2.1
theorem d_MD_inside_112 : decode prog_12_method_112_code 112 = .ok (.lload 7, 2) := F_MD_inside_105.2.2.2.2.2.1
theorem d_MD_inside_114 : decode prog_12_method_112_code 114 = .ok (.invokevirtual 385, 3) := F_MD_inside_105.2.2.2.2.2.2.1
theorem d_MD_inside_117 : decode prog_12_method_112_code 117 = .ok (.ifCond .eq (5), 3) := F_MD_inside_105.2.2.2.2.2.2.2.1
theorem d_MD_inside_120 : decode prog_12_method_112_code 120 = .ok (.iconst 2, 1) := F_MD_inside_105.2.2.2.2.2.2.2.2.1
theorem d_MD_inside_121 : decode prog_12_method_112_code 121 = .ok (.ireturn, 1) := F_MD_inside_105.2.2.2.2.2.2.2.2.2.1
theorem d_MD_inside_122 : decode prog_12_method_112_code 122 = .ok (.aload_n 0, 1) := F_MD_inside_105.2.2.2.2.2.2.2.2.2.2.1
theorem d_MD_inside_123 : decode prog_12_method_112_code 123 = .ok (.getfield 15, 3) := F_MD_inside_105.2.2.2.2.2.2.2.2.2.2.2.1
theorem d_MD_inside_126 : decode prog_12_method_112_code 126 = .ok (.bipush (8), 2) := F_MD_inside_105.2.2.2.2.2.2.2.2.2.2.2.2.1
theorem d_MD_inside_128 : decode prog_12_method_112_code 128 = .ok (.iload_n 1, 1) := F_MD_inside_105.2.2.2.2.2.2.2.2.2.2.2.2.2.1
theorem d_MD_inside_129 : decode prog_12_method_112_code 129 = .ok (.imul, 1) := F_MD_inside_105.2.2.2.2.2.2.2.2.2.2.2.2.2.2.1
theorem d_MD_inside_130 : decode prog_12_method_112_code 130 = .ok (.iconst 2, 1) := F_MD_inside_105.2.2.2.2.2.2.2.2.2.2.2.2.2.2.2.1
theorem d_MD_inside_131 : decode prog_12_method_112_code 131 = .ok (.iload 10, 2) := F_MD_inside_105.2.2.2.2.2.2.2.2.2.2.2.2.2.2.2.2.1
theorem d_MD_inside_133 : decode prog_12_method_112_code 133 = .ok (.imul, 1) := F_MD_inside_105.2.2.2.2.2.2.2.2.2.2.2.2.2.2.2.2.2.1
theorem d_MD_inside_134 : decode prog_12_method_112_code 134 = .ok (.iadd, 1) := F_MD_inside_105.2.2.2.2.2.2.2.2.2.2.2.2.2.2.2.2.2.2.1
theorem d_MD_inside_135 : decode prog_12_method_112_code 135 = .ok (.iconst 1, 1) := F_MD_inside_105.2.2.2.2.2.2.2.2.2.2.2.2.2.2.2.2.2.2.2.1
theorem d_MD_inside_136 : decode prog_12_method_112_code 136 = .ok (.iadd, 1) := F_MD_inside_105.2.2.2.2.2.2.2.2.2.2.2.2.2.2.2.2.2.2.2.2.1
theorem d_MD_inside_137 : decode prog_12_method_112_code 137 = .ok (.iaload, 1) := F_MD_inside_105.2.2.2.2.2.2.2.2.2.2.2.2.2.2.2.2.2.2.2.2.2.1
theorem d_MD_inside_138 : decode prog_12_method_112_code 138 = .ok (.i2l, 1) := F_MD_inside_105.2.2.2.2.2.2.2.2.2.2.2.2.2.2.2.2.2.2.2.2.2.2.1
theorem d_MD_inside_139 : decode prog_12_method_112_code 139 = .ok (.lload 7, 2) := F_MD_inside_105.2.2.2.2.2.2.2.2.2.2.2.2.2.2.2.2.2.2.2.2.2.2.2.1
theorem d_MD_inside_141 : decode prog_12_method_112_code 141 = .ok (.lmul, 1) := F_MD_inside_105.2.2.2.2.2.2.2.2.2.2.2.2.2.2.2.2.2.2.2.2.2.2.2.2.1
theorem d_MD_inside_142 : decode prog_12_method_112_code 142 = .ok (.lload 5, 2) := F_MD_inside_105.2.2.2.2.2.2.2.2.2.2.2.2.2.2.2.2.2.2.2.2.2.2.2.2.2.1
theorem d_MD_inside_144 : decode prog_12_method_112_code 144 = .ok (.lcmp, 1) := F_MD_inside_105.2.2.2.2.2.2.2.2.2.2.2.2.2.2.2.2.2.2.2.2.2.2.2.2.2.2.1
theorem d_MD_inside_145 : decode prog_12_method_112_code 145 = .ok (.ifCond .gt (7), 3) := F_MD_inside_105.2.2.2.2.2.2.2.2.2.2.2.2.2.2.2.2.2.2.2.2.2.2.2.2.2.2.2.1
theorem d_MD_inside_148 : decode prog_12_method_112_code 148 = .ok (.iconst 1, 1) := F_MD_inside_105.2.2.2.2.2.2.2.2.2.2.2.2.2.2.2.2.2.2.2.2.2.2.2.2.2.2.2.2.1
theorem d_MD_inside_149 : decode prog_12_method_112_code 149 = .ok (.goto (4), 3) := F_MD_inside_105.2.2.2.2.2.2.2.2.2.2.2.2.2.2.2.2.2.2.2.2.2.2.2.2.2.2.2.2.2.1
theorem d_MD_inside_152 : decode prog_12_method_112_code 152 = .ok (.iconst 0, 1) := F_MD_inside_105.2.2.2.2.2.2.2.2.2.2.2.2.2.2.2.2.2.2.2.2.2.2.2.2.2.2.2.2.2.2.1
theorem d_MD_inside_153 : decode prog_12_method_112_code 153 = .ok (.istore 11, 2) := F_MD_inside_105.2.2.2.2.2.2.2.2.2.2.2.2.2.2.2.2.2.2.2.2.2.2.2.2.2.2.2.2.2.2.2.1
theorem F_MD_inside_155 : Jvm.Free.DS.Facts prog_12_method_112_code 155 [(.aload_n 0, 1), (.getfield 15, 3), (.bipush (8), 2), (.iload_n 1, 1), (.imul, 1), (.iconst 2, 1), (.iload 10, 2), (.iconst 1, 1), (.iadd, 1), (.iconst 4, 1), (.irem, 1), (.imul, 1), (.iadd, 1), (.iconst 1, 1), (.iadd, 1), (.iaload, 1), (.i2l, 1), (.lload 7, 2), (.lmul, 1), (.lload 5, 2), (.lcmp, 1), (.ifCond .gt (7), 3), (.iconst 1, 1), (.goto (4), 3), (.iconst 0, 1), (.istore 12, 2), (.iload 11, 2), (.iload 12, 2), (.if_icmp .ne (6), 3), (.goto (49), 3), (.aload_n 0, 1), (.iload_n 1, 1)] := Jvm.Free.DS.facts 155 _ (by decide +kernel) (by decide +kernel)
theorem d_MD_inside_155 : decode prog_12_method_112_code 155 = .ok (.aload_n 0, 1) := F_MD_inside_155.1
theorem d_MD_inside_156 : decode prog_12_method_112_code 156 = .ok (.getfield 15, 3) := F_MD_inside_155.2.1
theorem d_MD_inside_159 : decode prog_12_method_112_code 159 = .ok (.bipush (8), 2) := F_MD_inside_155.2.2.1
theorem d_MD_inside_161 : decode prog_12_method_112_code 161 = .ok (.iload_n 1, 1) := F_MD_inside_155.2.2.2.1
theorem d_MD_inside_162 : decode prog_12_method_112_code 162 = .ok (.imul, 1) := F_MD_inside_155.2.2.2.2.1
theorem d_MD_inside_163 : decode prog_12_method_112_code 163 = .ok (.iconst 2, 1) := F_MD_inside_155.2.2.2.2.2.1
theorem d_MD_inside_164 : decode prog_12_method_112_code 164 = .ok (.iload 10, 2) := F_MD_inside_155.2.2.2.2.2.2.1
theorem d_MD_inside_166 : decode prog_12_method_112_code 166 = .ok (.iconst 1, 1) := F_MD_inside_155.2.2.2.2.2.2.2.1
theorem d_MD_inside_167 : decode prog_12_method_112_code 167 = .ok (.iadd, 1) := F_MD_inside_155.2.2.2.2.2.2.2.2.1
theorem d_MD_inside_168 : decode prog_12_method_112_code 168 = .ok (.iconst 4, 1) := F_MD_inside_155.2.2.2.2.2.2.2.2.2.1
theorem d_MD_inside_169 : decode prog_12_method_112_code 169 = .ok (.irem, 1) := F_MD_inside_155.2.2.2.2.2.2.2.2.2.2.1
theorem d_MD_inside_170 : decode prog_12_method_112_code 170 = .ok (.imul, 1) := F_MD_inside_155.2.2.2.2.2.2.2.2.2.2.2.1
theorem d_MD_inside_171 : decode prog_12_method_112_code 171 = .ok (.iadd, 1) := F_MD_inside_155.2.2.2.2.2.2.2.2.2.2.2.2.1
theorem d_MD_inside_172 : decode prog_12_method_112_code 172 = .ok (.iconst 1, 1) := F_MD_inside_155.2.2.2.2.2.2.2.2.2.2.2.2.2.1
theorem d_MD_inside_173 : decode prog_12_method_112_code 173 = .ok (.iadd, 1) := F_MD_inside_155.2.2.2.2.2.2.2.2.2.2.2.2.2.2.1
theorem d_MD_inside_174 : decode prog_12_method_112_code 174 = .ok (.iaload, 1) := F_MD_inside_155.2.2.2.2.2.2.2.2.2.2.2.2.2.2.2.1
theorem d_MD_inside_175 : decode prog_12_method_112_code 175 = .ok (.i2l, 1) := F_MD_inside_155.2.2.2.2.2.2.2.2.2.2.2.2.2.2.2.2.1
theorem d_MD_inside_176 : decode prog_12_method_112_code 176 = .ok (.lload 7, 2) := F_MD_inside_155.2.2.2.2.2.2.2.2.2.2.2.2.2.2.2.2.2.1
theorem d_MD_inside_178 : decode prog_12_method_112_code 178 = .ok (.lmul, 1) := F_MD_inside_155.2.2.2.2.2.2.2.2.2.2.2.2.2.2.2.2.2.2.1
theorem d_MD_inside_179 : decode prog_12_method_112_code 179 = .ok (.lload 5, 2) := F_MD_inside_155.2.2.2.2.2.2.2.2.2.2.2.2.2.2.2.2.2.2.2.1
theorem d_MD_inside_181 : decode prog_12_method_112_code 181 = .ok (.lcmp, 1) := F_MD_inside_155.2.2.2.2.2.2.2.2.2.2.2.2.2.2.2.2.2.2.2.2.1
theorem d_MD_inside_182 : decode prog_12_method_112_code 182 = .ok (.ifCond .gt (7), 3) := F_MD_inside_155.2.2.2.2.2.2.2.2.2.2.2.2.2.2.2.2.2.2.2.2.2.1
theorem d_MD_inside_185 : decode prog_12_method_112_code 185 = .ok (.iconst 1, 1) := F_MD_inside_155.2.2.2.2.2.2.2.2.2.2.2.2.2.2.2.2.2.2.2.2.2.2.1
theorem d_MD_inside_186 : decode prog_12_method_112_code 186 = .ok (.goto (4), 3) := F_MD_inside_155.2.2.2.2.2.2.2.2.2.2.2.2.2.2.2.2.2.2.2.2.2.2.2.1
theorem d_MD_inside_189 : decode prog_12_method_112_code 189 = .ok (.iconst 0, 1) := F_MD_inside_155.2.2.2.2.2.2.2.2.2.2.2.2.2.2.2.2.2.2.2.2.2.2.2.2.1
theorem d_MD_inside_190 : decode prog_12_method_112_code 190 = .ok (.istore 12, 2) := F_MD_inside_155.2.2.2.2.2.2.2.2.2.2.2.2.2.2.2.2.2.2.2.2.2.2.2.2.2.1
theorem d_MD_inside_192 : decode prog_12_method_112_code 192 = .ok (.iload 11, 2) := F_MD_inside_155.2.2.2.2.2.2.2.2.2.2.2.2.2.2.2.2.2.2.2.2.2.2.2.2.2.2.1
theorem d_MD_inside_194 : decode prog_12_method_112_code 194 = .ok (.iload 12, 2) := F_MD_inside_155.2.2.2.2.2.2.2.2.2.2.2.2.2.2.2.2.2.2.2.2.2.2.2.2.2.2.2.1
theorem d_MD_inside_196 : decode prog_12_method_112_code 196 = .ok (.if_icmp .ne (6), 3) := F_MD_inside_155.2.2.2.2.2.2.2.2.2.2.2.2.2.2.2.2.2.2.2.2.2.2.2.2.2.2.2.2.1
theorem d_MD_inside_199 : decode prog_12_method_112_code 199 = .ok (.goto (49), 3) := F_MD_inside_155.2.2.2.2.2.2.2.2.2.2.2.2.2.2.2.2.2.2.2.2.2.2.2.2.2.2.2.2.2.1
theorem d_MD_inside_202 : decode prog_12_method_112_code 202 = .ok (.aload_n 0, 1) := F_MD_inside_155.2.2.2.2.2.2.2.2.2.2.2.2.2.2.2.2.2.2.2.2.2.2.2.2.2.2.2.2.2.2.1
theorem d_MD_inside_203 : decode prog_12_method_112_code 203 = .ok (.iload_n 1, 1) := F_MD_inside_155.2.2.2.2.2.2.2.2.2.2.2.2.2.2.2.2.2.2.2.2.2.2.2.2.2.2.2.2.2.2.2.1
theorem F_MD_inside_204 : Jvm.Free.DS.Facts prog_12_method_112_code 204 [(.iload 10, 2), (.lload_n 3, 1), (.lload 5, 2), (.lload 7, 2), (.invokevirtual 377, 3), (.ifCond .le (7), 3), (.iconst 1, 1), (.goto (4), 3), (.iconst 0, 1), (.istore 13, 2), (.iload 9, 2), (.iload 13, 2), (.iload 11, 2), (.if_icmp .ne (7), 3), (.iconst 1, 1), (.goto (4), 3), (.iconst 0, 1), (.if_icmp .eq (7), 3), (.iconst 1, 1), (.goto (4), 3), (.iconst 0, 1), (.istore 9, 2), (.iinc 10 (1), 3), (.goto (-152), 3), (.iload 9, 2), (.ifCond .eq (7), 3), (.iconst 1, 1), (.goto (4), 3), (.iconst 0, 1), (.ireturn, 1)] := Jvm.Free.DS.facts 204 _ (by decide +kernel) (by decide +kernel)
theorem d_MD_inside_204 : decode prog_12_method_112_code 204 = .ok (.iload 10, 2) := F_MD_inside_204.1
theorem d_MD_inside_206 : decode prog_12_method_112_code 206 = .ok (.lload_n 3, 1) := F_MD_inside_204.2.1
theorem d_MD_inside_207 : decode prog_12_method_112_code 207 = .ok (.lload 5, 2) := F_MD_inside_204.2.2.1
theorem d_MD_inside_209 : decode prog_12_method_112_code 209 = .ok (.lload 7, 2) := F_MD_inside_204.2.2.2.1
theorem d_MD_inside_211 : decode prog_12_method_112_code 211 = .ok (.invokevirtual 377, 3) := F_MD_inside_204.2.2.2.2.1
theorem d_MD_inside_214 : decode prog_12_method_112_code 214 = .ok (.ifCond .le (7), 3) := F_MD_inside_204.2.2.2.2.2.1
theorem d_MD_inside_217 : decode prog_12_method_112_code 217 = .ok (.iconst 1, 1) := F_MD_inside_204.2.2.2.2.2.2.1
theorem d_MD_inside_218 : decode prog_12_method_112_code 218 = .ok (.goto (4), 3) := F_MD_inside_204.2.2.2.2.2.2.2.1
theorem d_MD_inside_221 : decode prog_12_method_112_code 221 = .ok (.iconst 0, 1) := F_MD_inside_204.2.2.2.2.2.2.2.2.1
theorem d_MD_inside_222 : decode prog_12_method_112_code 222 = .ok (.istore 13, 2) := F_MD_inside_204.2.2.2.2.2.2.2.2.2.1
theorem d_MD_inside_224 : decode prog_12_method_112_code 224 = .ok (.iload 9, 2) := F_MD_inside_204.2.2.2.2.2.2.2.2.2.2.1
theorem d_MD_inside_226 : decode prog_12_method_112_code 226 = .ok (.iload 13, 2) := F_MD_inside_204.2.2.2.2.2.2.2.2.2.2.2.1
theorem d_MD_inside_228 : decode prog_12_method_112_code 228 = .ok (.iload 11, 2) := F_MD_inside_204.2.2.2.2.2.2.2.2.2.2.2.2.1
theorem d_MD_inside_230 : decode prog_12_method_112_code 230 = .ok (.if_icmp .ne (7), 3) := F_MD_inside_204.2.2.2.2.2.2.2.2.2.2.2.2.2.1
theorem d_MD_inside_233 : decode prog_12_method_112_code 233 = .ok (.iconst 1, 1) := F_MD_inside_204.2.2.2.2.2.2.2.2.2.2.2.2.2.2.1
theorem d_MD_inside_234 : decode prog_12_method_112_code 234 = .ok (.goto (4), 3) := F_MD_inside_204.2.2.2.2.2.2.2.2.2.2.2.2.2.2.2.1
theorem d_MD_inside_237 : decode prog_12_method_112_code 237 = .ok (.iconst 0, 1) := F_MD_inside_204.2.2.2.2.2.2.2.2.2.2.2.2.2.2.2.2.1
theorem d_MD_inside_238 : decode prog_12_method_112_code 238 = .ok (.if_icmp .eq (7), 3) := F_MD_inside_204.2.2.2.2.2.2.2.2.2.2.2.2.2.2.2.2.2.1
theorem d_MD_inside_241 : decode prog_12_method_112_code 241 = .ok (.iconst 1, 1) := F_MD_inside_204.2.2.2.2.2.2.2.2.2.2.2.2.2.2.2.2.2.2.1
theorem d_MD_inside_242 : decode prog_12_method_112_code 242 = .ok (.goto (4), 3) := F_MD_inside_204.2.2.2.2.2.2.2.2.2.2.2.2.2.2.2.2.2.2.2.1
theorem d_MD_inside_245 : decode prog_12_method_112_code 245 = .ok (.iconst 0, 1) := F_MD_inside_204.2.2.2.2.2.2.2.2.2.2.2.2.2.2.2.2.2.2.2.2.1
theorem d_MD_inside_246 : decode prog_12_method_112_code 246 = .ok (.istore 9, 2) := F_MD_inside_204.2.2.2.2.2.2.2.2.2.2.2.2.2.2.2.2.2.2.2.2.2.1
theorem d_MD_inside_248 : decode prog_12_method_112_code 248 = .ok (.iinc 10 (1), 3) := F_MD_inside_204.2.2.2.2.2.2.2.2.2.2.2.2.2.2.2.2.2.2.2.2.2.2.1
theorem d_MD_inside_251 : decode prog_12_method_112_code 251 = .ok (.goto (-152), 3) := F_MD_inside_204.2.2.2.2.2.2.2.2.2.2.2.2.2.2.2.2.2.2.2.2.2.2.2.1
theorem d_MD_inside_254 : decode prog_12_method_112_code 254 = .ok (.iload 9, 2) := F_MD_inside_204.2.2.2.2.2.2.2.2.2.2.2.2.2.2.2.2.2.2.2.2.2.2.2.2.1
theorem d_MD_inside_256 : decode prog_12_method_112_code 256 = .ok (.ifCond .eq (7), 3) := F_MD_inside_204.2.2.2.2.2.2.2.2.2.2.2.2.2.2.2.2.2.2.2.2.2.2.2.2.2.1
theorem d_MD_inside_259 : decode prog_12_method_112_code 259 = .ok (.iconst 1, 1) := F_MD_inside_204.2.2.2.2.2.2.2.2.2.2.2.2.2.2.2.2.2.2.2.2.2.2.2.2.2.2.1
theorem d_MD_inside_260 : decode prog_12_method_112_code 260 = .ok (.goto (4), 3) := F_MD_inside_204.2.2.2.2.2.2.2.2.2.2.2.2.2.2.2.2.2.2.2.2.2.2.2.2.2.2.2.1
theorem d_MD_inside_263 : decode prog_12_method_112_code 263 = .ok (.iconst 0, 1) := F_MD_inside_204.2.2.2.2.2.2.2.2.2.2.2.2.2.2.2.2.2.2.2.2.2.2.2.2.2.2.2.2.1
theorem d_MD_inside_264 : decode prog_12_method_112_code 264 = .ok (.ireturn, 1) := F_MD_inside_204.2.2.2.2.2.2.2.2.2.2.2.2.2.2.2.2.2.2.2.2.2.2.2.2.2.2.2.2.2.1
theorem F_MD_isOnSide_0 : Jvm.Free.DS.Facts prog_12_method_111_code 0 [(.bipush (8), 2), (.iload_n 1, 1), (.imul, 1), (.iconst 2, 1), (.iload_n 2, 1), (.imul, 1), (.iadd, 1), (.istore 9, 2), (.bipush (8), 2), (.iload_n 1, 1), (.imul, 1), (.iconst 2, 1), (.iload_n 2, 1), (.iconst 1, 1), (.iadd, 1), (.iconst 4, 1), (.irem, 1), (.imul, 1), (.iadd, 1), (.istore 10, 2), (.aload_n 0, 1), (.iload_n 1, 1), (.iload_n 2, 1), (.lload_n 3, 1), (.lload 5, 2), (.lload 7, 2), (.invokevirtual 377, 3), (.ifCond .ne (70), 3), (.lload_n 3, 1), (.aload_n 0, 1), (.getfield 15, 3), (.iload 9, 2)] := Jvm.Free.DS.facts 0 _ (by decide +kernel) (by decide +kernel)
theorem d_MD_isOnSide_0 : decode prog_12_method_111_code 0 = .ok (.bipush (8), 2) := F_MD_isOnSide_0.1
theorem d_MD_isOnSide_2 : decode prog_12_method_111_code 2 = .ok (.iload_n 1, 1) := F_MD_isOnSide_0.2.1
theorem d_MD_isOnSide_3 : decode prog_12_method_111_code 3 = .ok (.imul, 1) := F_MD_isOnSide_0.2.2.1
theorem d_MD_isOnSide_4 : decode prog_12_method_111_code 4 = .ok (.iconst 2, 1) := F_MD_isOnSide_0.2.2.2.1
theorem d_MD_isOnSide_5 : decode prog_12_method_111_code 5 = .ok (.iload_n 2, 1) := F_MD_isOnSide_0.2.2.2.2.1
theorem d_MD_isOnSide_6 : decode prog_12_method_111_code 6 = .ok (.imul, 1) := F_MD_isOnSide_0.2.2.2.2.2.1
theorem d_MD_isOnSide_7 : decode prog_12_method_111_code 7 = .ok (.iadd, 1) := F_MD_isOnSide_0.2.2.2.2.2.2.1
theorem d_MD_isOnSide_8 : decode prog_12_method_111_code 8 = .ok (.istore 9, 2) := F_MD_isOnSide_0.2.2.2.2.2.2.2.1
theorem d_MD_isOnSide_10 : decode prog_12_method_111_code 10 = .ok (.bipush (8), 2) := F_MD_isOnSide_0.2.2.2.2.2.2.2.2.1
theorem d_MD_isOnSide_12 : decode prog_12_method_111_code 12 = .ok (.iload_n 1, 1) := F_MD_isOnSide_0.2.2.2.2.2.2.2.2.2.1
theorem d_MD_isOnSide_13 : decode prog_12_method_111_code 13 = .ok (.imul, 1) := F_MD_isOnSide_0.2.2.2.2.2.2.2.2.2.2.1
theorem d_MD_isOnSide_14 : decode prog_12_method_111_code 14 = .ok (.iconst 2, 1) := F_MD_isOnSide_0.2.2.2.2.2.2.2.2.2.2.2.1
theorem d_MD_isOnSide_15 : decode prog_12_method_111_code 15 = .ok (.iload_n 2, 1) := F_MD_isOnSide_0.2.2.2.2.2.2.2.2.2.2.2.2.1
theorem d_MD_isOnSide_16 : decode prog_12_method_111_code 16 = .ok (.iconst 1, 1) := F_MD_isOnSide_0.2.2.2.2.2.2.2.2.2.2.2.2.2.1
theorem d_MD_isOnSide_17 : decode prog_12_method_111_code 17 = .ok (.iadd, 1) := F_MD_isOnSide_0.2.2.2.2.2.2.2.2.2.2.2.2.2.2.1
theorem d_MD_isOnSide_18 : decode prog_12_method_111_code 18 = .ok (.iconst 4, 1) := F_MD_isOnSide_0.2.2.2.2.2.2.2.2.2.2.2.2.2.2.2.1
theorem d_MD_isOnSide_19 : decode prog_12_method_111_code 19 = .ok (.irem, 1) := F_MD_isOnSide_0.2.2.2.2.2.2.2.2.2.2.2.2.2.2.2.2.1
theorem d_MD_isOnSide_20 : decode prog_12_method_111_code 20 = .ok (.imul, 1) := F_MD_isOnSide_0.2.2.2.2.2.2.2.2.2.2.2.2.2.2.2.2.2.1
theorem d_MD_isOnSide_21 : decode prog_12_method_111_code 21 = .ok (.iadd, 1) := F_MD_isOnSide_0.2.2.2.2.2.2.2.2.2.2.2.2.2.2.2.2.2.2.1
theorem d_MD_isOnSide_22 : decode prog_12_method_111_code 22 = .ok (.istore 10, 2) := F_MD_isOnSide_0.2.2.2.2.2.2.2.2.2.2.2.2.2.2.2.2.2.2.2.1
theorem d_MD_isOnSide_24 : decode prog_12_method_111_code 24 = .ok (.aload_n 0, 1) := F_MD_isOnSide_0.2.2.2.2.2.2.2.2.2.2.2.2.2.2.2.2.2.2.2.2.1
theorem d_MD_isOnSide_25 : decode prog_12_method_111_code 25 = .ok (.iload_n 1, 1) := F_MD_isOnSide_0.2.2.2.2.2.2.2.2.2.2.2.2.2.2.2.2.2.2.2.2.2.1
theorem d_MD_isOnSide_26 : decode prog_12_method_111_code 26 = .ok (.iload_n 2, 1) := F_MD_isOnSide_0.2.2.2.2.2.2.2.2.2.2.2.2.2.2.2.2.2.2.2.2.2.2.1
theorem d_MD_isOnSide_27 : decode prog_12_method_111_code 27 = .ok (.lload_n 3, 1) := F_MD_isOnSide_0.2.2.2.2.2.2.2.2.2.2.2.2.2.2.2.2.2.2.2.2.2.2.2.1
theorem d_MD_isOnSide_28 : decode prog_12_method_111_code 28 = .ok (.lload 5, 2) := F_MD_isOnSide_0.2.2.2.2.2.2.2.2.2.2.2.2.2.2.2.2.2.2.2.2.2.2.2.2.1
theorem d_MD_isOnSide_30 : decode prog_12_method_111_code 30 = .ok (.lload 7, 2) := F_MD_isOnSide_0.2.2.2.2.2.2.2.2.2.2.2.2.2.2.2.2.2.2.2.2.2.2.2.2.2.1
theorem d_MD_isOnSide_32 : decode prog_12_method_111_code 32 = .ok (.invokevirtual 377, 3) := F_MD_isOnSide_0.2.2.2.2.2.2.2.2.2.2.2.2.2.2.2.2.2.2.2.2.2.2.2.2.2.2.1
theorem d_MD_isOnSide_35 : decode prog_12_method_111_code 35 = .ok (.ifCond .ne (70), 3) := F_MD_isOnSide_0.2.2.2.2.2.2.2.2.2.2.2.2.2.2.2.2.2.2.2.2.2.2.2.2.2.2.2.1
theorem d_MD_isOnSide_38 : decode prog_12_method_111_code 38 = .ok (.lload_n 3, 1) := F_MD_isOnSide_0.2.2.2.2.2.2.2.2.2.2.2.2.2.2.2.2.2.2.2.2.2.2.2.2.2.2.2.2.1
theorem d_MD_isOnSide_39 : decode prog_12_method_111_code 39 = .ok (.aload_n 0, 1) := F_MD_isOnSide_0.2.2.2.2.2.2.2.2.2.2.2.2.2.2.2.2.2.2.2.2.2.2.2.2.2.2.2.2.2.1
theorem d_MD_isOnSide_40 : decode prog_12_method_111_code 40 = .ok (.getfield 15, 3) := F_MD_isOnSide_0.2.2.2.2.2.2.2.2.2.2.2.2.2.2.2.2.2.2.2.2.2.2.2.2.2.2.2.2.2.2.1
theorem d_MD_isOnSide_43 : decode prog_12_method_111_code 43 = .ok (.iload 9, 2) := F_MD_isOnSide_0.2.2.2.2.2.2.2.2.2.2.2.2.2.2.2.2.2.2.2.2.2.2.2.2.2.2.2.2.2.2.2.1
theorem F_MD_isOnSide_45 : Jvm.Free.DS.Facts prog_12_method_111_code 45 [(.iaload, 1), (.i2l, 1), (.lload 7, 2), (.lmul, 1), (.aload_n 0, 1), (.getfield 15, 3), (.iload 10, 2), (.iaload, 1), (.i2l, 1), (.lload 7, 2), (.lmul, 1), (.invokestatic 381, 3), (.ifCond .eq (41), 3), (.lload 5, 2), (.aload_n 0, 1), (.getfield 15, 3), (.iload 9, 2), (.iconst 1, 1), (.iadd, 1), (.iaload, 1), (.i2l, 1), (.lload 7, 2), (.lmul, 1), (.aload_n 0, 1), (.getfield 15, 3), (.iload 10, 2), (.iconst 1, 1), (.iadd, 1), (.iaload, 1), (.i2l, 1), (.lload 7, 2), (.lmul, 1)] := Jvm.Free.DS.facts 45 _ (by decide +kernel) (by decide +kernel)
theorem d_MD_isOnSide_45 : decode prog_12_method_111_code 45 = .ok (.iaload, 1) := F_MD_isOnSide_45.1
theorem d_MD_isOnSide_46 : decode prog_12_method_111_code 46 = .ok (.i2l, 1) := F_MD_isOnSide_45.2.1
theorem d_MD_isOnSide_47 : decode prog_12_method_111_code 47 = .ok (.lload 7, 2) := F_MD_isOnSide_45.2.2.1
theorem d_MD_isOnSide_49 : decode prog_12_method_111_code 49 = .ok (.lmul, 1) := F_MD_isOnSide_45.2.2.2.1
theorem d_MD_isOnSide_50 : decode prog_12_method_111_code 50 = .ok (.aload_n 0, 1) := F_MD_isOnSide_45.2.2.2.2.1
theorem d_MD_isOnSide_51 : decode prog_12_method_111_code 51 = .ok (.getfield 15, 3) := F_MD_isOnSide_45.2.2.2.2.2.1
theorem d_MD_isOnSide_54 : decode prog_12_method_111_code 54 = .ok (.iload 10, 2) := F_MD_isOnSide_45.2.2.2.2.2.2.1
theorem d_MD_isOnSide_56 : decode prog_12_method_111_code 56 = .ok (.iaload, 1) := F_MD_isOnSide_45.2.2.2.2.2.2.2.1
theorem d_MD_isOnSide_57 : decode prog_12_method_111_code 57 = .ok (.i2l, 1) := F_MD_isOnSide_45.2.2.2.2.2.2.2.2.1
theorem d_MD_isOnSide_58 : decode prog_12_method_111_code 58 = .ok (.lload 7, 2) := F_MD_isOnSide_45.2.2.2.2.2.2.2.2.2.1
theorem d_MD_isOnSide_60 : decode prog_12_method_111_code 60 = .ok (.lmul, 1) := F_MD_isOnSide_45.2.2.2.2.2.2.2.2.2.2.1
theorem d_MD_isOnSide_61 : decode prog_12_method_111_code 61 = .ok (.invokestatic 381, 3) := F_MD_isOnSide_45.2.2.2.2.2.2.2.2.2.2.2.1
theorem d_MD_isOnSide_64 : decode prog_12_method_111_code 64 = .ok (.ifCond .eq (41), 3) := F_MD_isOnSide_45.2.2.2.2.2.2.2.2.2.2.2.2.1
theorem d_MD_isOnSide_67 : decode prog_12_method_111_code 67 = .ok (.lload 5, 2) := F_MD_isOnSide_45.2.2.2.2.2.2.2.2.2.2.2.2.2.1
theorem d_MD_isOnSide_69 : decode prog_12_method_111_code 69 = .ok (.aload_n 0, 1) := F_MD_isOnSide_45.2.2.2.2.2.2.2.2.2.2.2.2.2.2.1
theorem d_MD_isOnSide_70 : decode prog_12_method_111_code 70 = .ok (.getfield 15, 3) := F_MD_isOnSide_45.2.2.2.2.2.2.2.2.2.2.2.2.2.2.2.1
theorem d_MD_isOnSide_73 : decode prog_12_method_111_code 73 = .ok (.iload 9, 2) := F_MD_isOnSide_45.2.2.2.2.2.2.2.2.2.2.2.2.2.2.2.2.1
theorem d_MD_isOnSide_75 : decode prog_12_method_111_code 75 = .ok (.iconst 1, 1) := F_MD_isOnSide_45.2.2.2.2.2.2.2.2.2.2.2.2.2.2.2.2.2.1
theorem d_MD_isOnSide_76 : decode prog_12_method_111_code 76 = .ok (.iadd, 1) := F_MD_isOnSide_45.2.2.2.2.2.2.2.2.2.2.2.2.2.2.2.2.2.2.1
theorem d_MD_isOnSide_77 : decode prog_12_method_111_code 77 = .ok (.iaload, 1) := F_MD_isOnSide_45.2.2.2.2.2.2.2.2.2.2.2.2.2.2.2.2.2.2.2.1
theorem d_MD_isOnSide_78 : decode prog_12_method_111_code 78 = .ok (.i2l, 1) := F_MD_isOnSide_45.2.2.2.2.2.2.2.2.2.2.2.2.2.2.2.2.2.2.2.2.1
theorem d_MD_isOnSide_79 : decode prog_12_method_111_code 79 = .ok (.lload 7, 2) := F_MD_isOnSide_45.2.2.2.2.2.2.2.2.2.2.2.2.2.2.2.2.2.2.2.2.2.1
theorem d_MD_isOnSide_81 : decode prog_12_method_111_code 81 = .ok (.lmul, 1) := F_MD_isOnSide_45.2.2.2.2.2.2.2.2.2.2.2.2.2.2.2.2.2.2.2.2.2.2.1
theorem d_MD_isOnSide_82 : decode prog_12_method_111_code 82 = .ok (.aload_n 0, 1) := F_MD_isOnSide_45.2.2.2.2.2.2.2.2.2.2.2.2.2.2.2.2.2.2.2.2.2.2.2.1
theorem d_MD_isOnSide_83 : decode prog_12_method_111_code 83 = .ok (.getfield 15, 3) := F_MD_isOnSide_45.2.2.2.2.2.2.2.2.2.2.2.2.2.2.2.2.2.2.2.2.2.2.2.2.1
theorem d_MD_isOnSide_86 : decode prog_12_method_111_code 86 = .ok (.iload 10, 2) := F_MD_isOnSide_45.2.2.2.2.2.2.2.2.2.2.2.2.2.2.2.2.2.2.2.2.2.2.2.2.2.1
theorem d_MD_isOnSide_88 : decode prog_12_method_111_code 88 = .ok (.iconst 1, 1) := F_MD_isOnSide_45.2.2.2.2.2.2.2.2.2.2.2.2.2.2.2.2.2.2.2.2.2.2.2.2.2.2.1
theorem d_MD_isOnSide_89 : decode prog_12_method_111_code 89 = .ok (.iadd, 1) := F_MD_isOnSide_45.2.2.2.2.2.2.2.2.2.2.2.2.2.2.2.2.2.2.2.2.2.2.2.2.2.2.2.1
theorem d_MD_isOnSide_90 : decode prog_12_method_111_code 90 = .ok (.iaload, 1) := F_MD_isOnSide_45.2.2.2.2.2.2.2.2.2.2.2.2.2.2.2.2.2.2.2.2.2.2.2.2.2.2.2.2.1
theorem d_MD_isOnSide_91 : decode prog_12_method_111_code 91 = .ok (.i2l, 1) := F_MD_isOnSide_45.2.2.2.2.2.2.2.2.2.2.2.2.2.2.2.2.2.2.2.2.2.2.2.2.2.2.2.2.2.1
theorem d_MD_isOnSide_92 : decode prog_12_method_111_code 92 = .ok (.lload 7, 2) := F_MD_isOnSide_45.2.2.2.2.2.2.2.2.2.2.2.2.2.2.2.2.2.2.2.2.2.2.2.2.2.2.2.2.2.2.1
theorem d_MD_isOnSide_94 : decode prog_12_method_111_code 94 = .ok (.lmul, 1) := F_MD_isOnSide_45.2.2.2.2.2.2.2.2.2.2.2.2.2.2.2.2.2.2.2.2.2.2.2.2.2.2.2.2.2.2.2.1
theorem F_MD_isOnSide_95 : Jvm.Free.DS.Facts prog_12_method_111_code 95 [(.invokestatic 381, 3), (.ifCond .eq (7), 3), (.iconst 1, 1), (.goto (4), 3), (.iconst 0, 1), (.ireturn, 1)] := Jvm.Free.DS.facts 95 _ (by decide +kernel) (by decide +kernel)
theorem d_MD_isOnSide_95 : decode prog_12_method_111_code 95 = .ok (.invokestatic 381, 3) := F_MD_isOnSide_95.1
theorem d_MD_isOnSide_98 : decode prog_12_method_111_code 98 = .ok (.ifCond .eq (7), 3) := F_MD_isOnSide_95.2.1
theorem d_MD_isOnSide_101 : decode prog_12_method_111_code 101 = .ok (.iconst 1, 1) := F_MD_isOnSide_95.2.2.1
theorem d_MD_isOnSide_102 : decode prog_12_method_111_code 102 = .ok (.goto (4), 3) := F_MD_isOnSide_95.2.2.2.1
theorem d_MD_isOnSide_105 : decode prog_12_method_111_code 105 = .ok (.iconst 0, 1) := F_MD_isOnSide_95.2.2.2.2.1
theorem d_MD_isOnSide_106 : decode prog_12_method_111_code 106 = .ok (.ireturn, 1) := F_MD_isOnSide_95.2.2.2.2.2.1
theorem F_MD_sideOfSide_0 : Jvm.Free.DS.Facts prog_12_method_109_code 0 [(.bipush (8), 2), (.iload_n 1, 1), (.imul, 1), (.iconst 2, 1), (.iload_n 2, 1), (.imul, 1), (.iadd, 1), (.istore 9, 2), (.bipush (8), 2), (.iload_n 1, 1), (.imul, 1), (.iconst 2, 1), (.iload_n 2, 1), (.iconst 1, 1), (.iadd, 1), (.iconst 4, 1), (.irem, 1), (.imul, 1), (.iadd, 1), (.istore 10, 2), (.aload_n 0, 1), (.getfield 15, 3), (.iload 10, 2), (.iaload, 1), (.aload_n 0, 1), (.getfield 15, 3), (.iload 9, 2), (.iaload, 1), (.isub, 1), (.i2l, 1), (.lstore 11, 2), (.aload_n 0, 1)] := Jvm.Free.DS.facts 0 _ (by decide +kernel) (by decide +kernel)
theorem d_MD_sideOfSide_0 : decode prog_12_method_109_code 0 = .ok (.bipush (8), 2) := F_MD_sideOfSide_0.1
theorem d_MD_sideOfSide_2 : decode prog_12_method_109_code 2 = .ok (.iload_n 1, 1) := F_MD_sideOfSide_0.2.1
theorem d_MD_sideOfSide_3 : decode prog_12_method_109_code 3 = .ok (.imul, 1) := F_MD_sideOfSide_0.2.2.1
theorem d_MD_sideOfSide_4 : decode prog_12_method_109_code 4 = .ok (.iconst 2, 1) := F_MD_sideOfSide_0.2.2.2.1
theorem d_MD_sideOfSide_5 : decode prog_12_method_109_code 5 = .ok (.iload_n 2, 1) := F_MD_sideOfSide_0.2.2.2.2.1
theorem d_MD_sideOfSide_6 : decode prog_12_method_109_code 6 = .ok (.imul, 1) := F_MD_sideOfSide_0.2.2.2.2.2.1
theorem d_MD_sideOfSide_7 : decode prog_12_method_109_code 7 = .ok (.iadd, 1) := F_MD_sideOfSide_0.2.2.2.2.2.2.1
theorem d_MD_sideOfSide_8 : decode prog_12_method_109_code 8 = .ok (.istore 9, 2) := F_MD_sideOfSide_0.2.2.2.2.2.2.2.1
theorem d_MD_sideOfSide_10 : decode prog_12_method_109_code 10 = .ok (.bipush (8), 2) := F_MD_sideOfSide_0.2.2.2.2.2.2.2.2.1
theorem d_MD_sideOfSide_12 : decode prog_12_method_109_code 12 = .ok (.iload_n 1, 1) := F_MD_sideOfSide_0.2.2.2.2.2.2.2.2.2.1
theorem d_MD_sideOfSide_13 : decode prog_12_method_109_code 13 = .ok (.imul, 1) := F_MD_sideOfSide_0.2.2.2.2.2.2.2.2.2.2.1
theorem d_MD_sideOfSide_14 : decode prog_12_method_109_code 14 = .ok (.iconst 2, 1) := F_MD_sideOfSide_0.2.2.2.2.2.2.2.2.2.2.2.1
theorem d_MD_sideOfSide_15 : decode prog_12_method_109_code 15 = .ok (.iload_n 2, 1) := F_MD_sideOfSide_0.2.2.2.2.2.2.2.2.2.2.2.2.1
theorem d_MD_sideOfSide_16 : decode prog_12_method_109_code 16 = .ok (.iconst 1, 1) := F_MD_sideOfSide_0.2.2.2.2.2.2.2.2.2.2.2.2.2.1
theorem d_MD_sideOfSide_17 : decode prog_12_method_109_code 17 = .ok (.iadd, 1) := F_MD_sideOfSide_0.2.2.2.2.2.2.2.2.2.2.2.2.2.2.1
theorem d_MD_sideOfSide_18 : decode prog_12_method_109_code 18 = .ok (.iconst 4, 1) := F_MD_sideOfSide_0.2.2.2.2.2.2.2.2.2.2.2.2.2.2.2.1
theorem d_MD_sideOfSide_19 : decode prog_12_method_109_code 19 = .ok (.irem, 1) := F_MD_sideOfSide_0.2.2.2.2.2.2.2.2.2.2.2.2.2.2.2.2.1
theorem d_MD_sideOfSide_20 : decode prog_12_method_109_code 20 = .ok (.imul, 1) := F_MD_sideOfSide_0.2.2.2.2.2.2.2.2.2.2.2.2.2.2.2.2.2.1
theorem d_MD_sideOfSide_21 : decode prog_12_method_109_code 21 = .ok (.iadd, 1) := F_MD_sideOfSide_0.2.2.2.2.2.2.2.2.2.2.2.2.2.2.2.2.2.2.1
theorem d_MD_sideOfSide_22 : decode prog_12_method_109_code 22 = .ok (.istore 10, 2) := F_MD_sideOfSide_0.2.2.2.2.2.2.2.2.2.2.2.2.2.2.2.2.2.2.2.1
theorem d_MD_sideOfSide_24 : decode prog_12_method_109_code 24 = .ok (.aload_n 0, 1) := F_MD_sideOfSide_0.2.2.2.2.2.2.2.2.2.2.2.2.2.2.2.2.2.2.2.2.1
theorem d_MD_sideOfSide_25 : decode prog_12_method_109_code 25 = .ok (.getfield 15, 3) := F_MD_sideOfSide_0.2.2.2.2.2.2.2.2.2.2.2.2.2.2.2.2.2.2.2.2.2.1
theorem d_MD_sideOfSide_28 : decode prog_12_method_109_code 28 = .ok (.iload 10, 2) := F_MD_sideOfSide_0.2.2.2.2.2.2.2.2.2.2.2.2.2.2.2.2.2.2.2.2.2.2.1
theorem d_MD_sideOfSide_30 : decode prog_12_method_109_code 30 = .ok (.iaload, 1) := F_MD_sideOfSide_0.2.2.2.2.2.2.2.2.2.2.2.2.2.2.2.2.2.2.2.2.2.2.2.1
theorem d_MD_sideOfSide_31 : decode prog_12_method_109_code 31 = .ok (.aload_n 0, 1) := F_MD_sideOfSide_0.2.2.2.2.2.2.2.2.2.2.2.2.2.2.2.2.2.2.2.2.2.2.2.2.1
theorem d_MD_sideOfSide_32 : decode prog_12_method_109_code 32 = .ok (.getfield 15, 3) := F_MD_sideOfSide_0.2.2.2.2.2.2.2.2.2.2.2.2.2.2.2.2.2.2.2.2.2.2.2.2.2.1
theorem d_MD_sideOfSide_35 : decode prog_12_method_109_code 35 = .ok (.iload 9, 2) := F_MD_sideOfSide_0.2.2.2.2.2.2.2.2.2.2.2.2.2.2.2.2.2.2.2.2.2.2.2.2.2.2.1
theorem d_MD_sideOfSide_37 : decode prog_12_method_109_code 37 = .ok (.iaload, 1) := F_MD_sideOfSide_0.2.2.2.2.2.2.2.2.2.2.2.2.2.2.2.2.2.2.2.2.2.2.2.2.2.2.2.1
theorem d_MD_sideOfSide_38 : decode prog_12_method_109_code 38 = .ok (.isub, 1) := F_MD_sideOfSide_0.2.2.2.2.2.2.2.2.2.2.2.2.2.2.2.2.2.2.2.2.2.2.2.2.2.2.2.2.1
theorem d_MD_sideOfSide_39 : decode prog_12_method_109_code 39 = .ok (.i2l, 1) := F_MD_sideOfSide_0.2.2.2.2.2.2.2.2.2.2.2.2.2.2.2.2.2.2.2.2.2.2.2.2.2.2.2.2.2.1
theorem d_MD_sideOfSide_40 : decode prog_12_method_109_code 40 = .ok (.lstore 11, 2) := F_MD_sideOfSide_0.2.2.2.2.2.2.2.2.2.2.2.2.2.2.2.2.2.2.2.2.2.2.2.2.2.2.2.2.2.2.1
theorem d_MD_sideOfSide_42 : decode prog_12_method_109_code 42 = .ok (.aload_n 0, 1) := F_MD_sideOfSide_0.2.2.2.2.2.2.2.2.2.2.2.2.2.2.2.2.2.2.2.2.2.2.2.2.2.2.2.2.2.2.2.1
theorem F_MD_sideOfSide_43 : Jvm.Free.DS.Facts prog_12_method_109_code 43 [(.getfield 15, 3), (.iload 10, 2), (.iconst 1, 1), (.iadd, 1), (.iaload, 1), (.aload_n 0, 1), (.getfield 15, 3), (.iload 9, 2), (.iconst 1, 1), (.iadd, 1), (.iaload, 1), (.isub, 1), (.i2l, 1), (.lstore 13, 2), (.lload 11, 2), (.lload 5, 2), (.aload_n 0, 1), (.getfield 15, 3), (.iload 9, 2), (.iconst 1, 1), (.iadd, 1), (.iaload, 1), (.i2l, 1), (.lload 7, 2), (.lmul, 1), (.lsub, 1), (.lmul, 1), (.lload 13, 2), (.lload_n 3, 1), (.aload_n 0, 1), (.getfield 15, 3), (.iload 9, 2)] := Jvm.Free.DS.facts 43 _ (by decide +kernel) (by decide +kernel)
theorem d_MD_sideOfSide_43 : decode prog_12_method_109_code 43 = .ok (.getfield 15, 3) := F_MD_sideOfSide_43.1
theorem d_MD_sideOfSide_46 : decode prog_12_method_109_code 46 = .ok (.iload 10, 2) := F_MD_sideOfSide_43.2.1
theorem d_MD_sideOfSide_48 : decode prog_12_method_109_code 48 = .ok (.iconst 1, 1) := F_MD_sideOfSide_43.2.2.1
theorem d_MD_sideOfSide_49 : decode prog_12_method_109_code 49 = .ok (.iadd, 1) := F_MD_sideOfSide_43.2.2.2.1
theorem d_MD_sideOfSide_50 : decode prog_12_method_109_code 50 = .ok (.iaload, 1) := F_MD_sideOfSide_43.2.2.2.2.1
theorem d_MD_sideOfSide_51 : decode prog_12_method_109_code 51 = .ok (.aload_n 0, 1) := F_MD_sideOfSide_43.2.2.2.2.2.1
theorem d_MD_sideOfSide_52 : decode prog_12_method_109_code 52 = .ok (.getfield 15, 3) := F_MD_sideOfSide_43.2.2.2.2.2.2.1
theorem d_MD_sideOfSide_55 : decode prog_12_method_109_code 55 = .ok (.iload 9, 2) := F_MD_sideOfSide_43.2.2.2.2.2.2.2.1
theorem d_MD_sideOfSide_57 : decode prog_12_method_109_code 57 = .ok (.iconst 1, 1) := F_MD_sideOfSide_43.2.2.2.2.2.2.2.2.1
theorem d_MD_sideOfSide_58 : decode prog_12_method_109_code 58 = .ok (.iadd, 1) := F_MD_sideOfSide_43.2.2.2.2.2.2.2.2.2.1
theorem d_MD_sideOfSide_59 : decode prog_12_method_109_code 59 = .ok (.iaload, 1) := F_MD_sideOfSide_43.2.2.2.2.2.2.2.2.2.2.1
theorem d_MD_sideOfSide_60 : decode prog_12_method_109_code 60 = .ok (.isub, 1) := F_MD_sideOfSide_43.2.2.2.2.2.2.2.2.2.2.2.1
theorem d_MD_sideOfSide_61 : decode prog_12_method_109_code 61 = .ok (.i2l, 1) := F_MD_sideOfSide_43.2.2.2.2.2.2.2.2.2.2.2.2.1
theorem d_MD_sideOfSide_62 : decode prog_12_method_109_code 62 = .ok (.lstore 13, 2) := F_MD_sideOfSide_43.2.2.2.2.2.2.2.2.2.2.2.2.2.1
theorem d_MD_sideOfSide_64 : decode prog_12_method_109_code 64 = .ok (.lload 11, 2) := F_MD_sideOfSide_43.2.2.2.2.2.2.2.2.2.2.2.2.2.2.1
theorem d_MD_sideOfSide_66 : decode prog_12_method_109_code 66 = .ok (.lload 5, 2) := F_MD_sideOfSide_43.2.2.2.2.2.2.2.2.2.2.2.2.2.2.2.1
theorem d_MD_sideOfSide_68 : decode prog_12_method_109_code 68 = .ok (.aload_n 0, 1) := F_MD_sideOfSide_43.2.2.2.2.2.2.2.2.2.2.2.2.2.2.2.2.1
theorem d_MD_sideOfSide_69 : decode prog_12_method_109_code 69 = .ok (.getfield 15, 3) := F_MD_sideOfSide_43.2.2.2.2.2.2.2.2.2.2.2.2.2.2.2.2.2.1
theorem d_MD_sideOfSide_72 : decode prog_12_method_109_code 72 = .ok (.iload 9, 2) := F_MD_sideOfSide_43.2.2.2.2.2.2.2.2.2.2.2.2.2.2.2.2.2.2.1
theorem d_MD_sideOfSide_74 : decode prog_12_method_109_code 74 = .ok (.iconst 1, 1) := F_MD_sideOfSide_43.2.2.2.2.2.2.2.2.2.2.2.2.2.2.2.2.2.2.2.1
theorem d_MD_sideOfSide_75 : decode prog_12_method_109_code 75 = .ok (.iadd, 1) := F_MD_sideOfSide_43.2.2.2.2.2.2.2.2.2.2.2.2.2.2.2.2.2.2.2.2.1
theorem d_MD_sideOfSide_76 : decode prog_12_method_109_code 76 = .ok (.iaload, 1) := F_MD_sideOfSide_43.2.2.2.2.2.2.2.2.2.2.2.2.2.2.2.2.2.2.2.2.2.1
theorem d_MD_sideOfSide_77 : decode prog_12_method_109_code 77 = .ok (.i2l, 1) := F_MD_sideOfSide_43.2.2.2.2.2.2.2.2.2.2.2.2.2.2.2.2.2.2.2.2.2.2.1
theorem d_MD_sideOfSide_78 : decode prog_12_method_109_code 78 = .ok (.lload 7, 2) := F_MD_sideOfSide_43.2.2.2.2.2.2.2.2.2.2.2.2.2.2.2.2.2.2.2.2.2.2.2.1
theorem d_MD_sideOfSide_80 : decode prog_12_method_109_code 80 = .ok (.lmul, 1) := F_MD_sideOfSide_43.2.2.2.2.2.2.2.2.2.2.2.2.2.2.2.2.2.2.2.2.2.2.2.2.1
theorem d_MD_sideOfSide_81 : decode prog_12_method_109_code 81 = .ok (.lsub, 1) := F_MD_sideOfSide_43.2.2.2.2.2.2.2.2.2.2.2.2.2.2.2.2.2.2.2.2.2.2.2.2.2.1
theorem d_MD_sideOfSide_82 : decode prog_12_method_109_code 82 = .ok (.lmul, 1) := F_MD_sideOfSide_43.2.2.2.2.2.2.2.2.2.2.2.2.2.2.2.2.2.2.2.2.2.2.2.2.2.2.1
theorem d_MD_sideOfSide_83 : decode prog_12_method_109_code 83 = .ok (.lload 13, 2) := F_MD_sideOfSide_43.2.2.2.2.2.2.2.2.2.2.2.2.2.2.2.2.2.2.2.2.2.2.2.2.2.2.2.1
theorem d_MD_sideOfSide_85 : decode prog_12_method_109_code 85 = .ok (.lload_n 3, 1) := F_MD_sideOfSide_43.2.2.2.2.2.2.2.2.2.2.2.2.2.2.2.2.2.2.2.2.2.2.2.2.2.2.2.2.1
theorem d_MD_sideOfSide_86 : decode prog_12_method_109_code 86 = .ok (.aload_n 0, 1) := F_MD_sideOfSide_43.2.2.2.2.2.2.2.2.2.2.2.2.2.2.2.2.2.2.2.2.2.2.2.2.2.2.2.2.2.1
theorem d_MD_sideOfSide_87 : decode prog_12_method_109_code 87 = .ok (.getfield 15, 3) := F_MD_sideOfSide_43.2.2.2.2.2.2.2.2.2.2.2.2.2.2.2.2.2.2.2.2.2.2.2.2.2.2.2.2.2.2.1
theorem d_MD_sideOfSide_90 : decode prog_12_method_109_code 90 = .ok (.iload 9, 2) := F_MD_sideOfSide_43.2.2.2.2.2.2.2.2.2.2.2.2.2.2.2.2.2.2.2.2.2.2.2.2.2.2.2.2.2.2.2.1
theorem F_MD_sideOfSide_92 : Jvm.Free.DS.Facts prog_12_method_109_code 92 [(.iaload, 1), (.i2l, 1), (.lload 7, 2), (.lmul, 1), (.lsub, 1), (.lmul, 1), (.lsub, 1), (.invokestatic 311, 3), (.ireturn, 1)] := Jvm.Free.DS.facts 92 _ (by decide +kernel) (by decide +kernel)
theorem d_MD_sideOfSide_92 : decode prog_12_method_109_code 92 = .ok (.iaload, 1) := F_MD_sideOfSide_92.1
theorem d_MD_sideOfSide_93 : decode prog_12_method_109_code 93 = .ok (.i2l, 1) := F_MD_sideOfSide_92.2.1
theorem d_MD_sideOfSide_94 : decode prog_12_method_109_code 94 = .ok (.lload 7, 2) := F_MD_sideOfSide_92.2.2.1
theorem d_MD_sideOfSide_96 : decode prog_12_method_109_code 96 = .ok (.lmul, 1) := F_MD_sideOfSide_92.2.2.2.1
theorem d_MD_sideOfSide_97 : decode prog_12_method_109_code 97 = .ok (.lsub, 1) := F_MD_sideOfSide_92.2.2.2.2.1
theorem d_MD_sideOfSide_98 : decode prog_12_method_109_code 98 = .ok (.lmul, 1) := F_MD_sideOfSide_92.2.2.2.2.2.1
theorem d_MD_sideOfSide_99 : decode prog_12_method_109_code 99 = .ok (.lsub, 1) := F_MD_sideOfSide_92.2.2.2.2.2.2.1
theorem d_MD_sideOfSide_100 : decode prog_12_method_109_code 100 = .ok (.invokestatic 311, 3) := F_MD_sideOfSide_92.2.2.2.2.2.2.2.1
theorem d_MD_sideOfSide_103 : decode prog_12_method_109_code 103 = .ok (.ireturn, 1) := F_MD_sideOfSide_92.2.2.2.2.2.2.2.2.1
theorem F_MD_isBetween_0 : Jvm.Free.DS.Facts prog_12_method_110_code 0 [(.lload_n 0, 1), (.lload_n 2, 1), (.lload 4, 2), (.invokestatic 371, 3), (.lcmp, 1), (.ifCond .lt (18), 3), (.lload_n 0, 1), (.lload_n 2, 1), (.lload 4, 2), (.invokestatic 374, 3), (.lcmp, 1), (.ifCond .gt (7), 3), (.iconst 1, 1), (.goto (4), 3), (.iconst 0, 1), (.ireturn, 1)] := Jvm.Free.DS.facts 0 _ (by decide +kernel) (by decide +kernel)
theorem d_MD_isBetween_0 : decode prog_12_method_110_code 0 = .ok (.lload_n 0, 1) := F_MD_isBetween_0.1
theorem d_MD_isBetween_1 : decode prog_12_method_110_code 1 = .ok (.lload_n 2, 1) := F_MD_isBetween_0.2.1
theorem d_MD_isBetween_2 : decode prog_12_method_110_code 2 = .ok (.lload 4, 2) := F_MD_isBetween_0.2.2.1
theorem d_MD_isBetween_4 : decode prog_12_method_110_code 4 = .ok (.invokestatic 371, 3) := F_MD_isBetween_0.2.2.2.1
theorem d_MD_isBetween_7 : decode prog_12_method_110_code 7 = .ok (.lcmp, 1) := F_MD_isBetween_0.2.2.2.2.1
theorem d_MD_isBetween_8 : decode prog_12_method_110_code 8 = .ok (.ifCond .lt (18), 3) := F_MD_isBetween_0.2.2.2.2.2.1
theorem d_MD_isBetween_11 : decode prog_12_method_110_code 11 = .ok (.lload_n 0, 1) := F_MD_isBetween_0.2.2.2.2.2.2.1
theorem d_MD_isBetween_12 : decode prog_12_method_110_code 12 = .ok (.lload_n 2, 1) := F_MD_isBetween_0.2.2.2.2.2.2.2.1
theorem d_MD_isBetween_13 : decode prog_12_method_110_code 13 = .ok (.lload 4, 2) := F_MD_isBetween_0.2.2.2.2.2.2.2.2.1
theorem d_MD_isBetween_15 : decode prog_12_method_110_code 15 = .ok (.invokestatic 374, 3) := F_MD_isBetween_0.2.2.2.2.2.2.2.2.2.1
theorem d_MD_isBetween_18 : decode prog_12_method_110_code 18 = .ok (.lcmp, 1) := F_MD_isBetween_0.2.2.2.2.2.2.2.2.2.2.1
theorem d_MD_isBetween_19 : decode prog_12_method_110_code 19 = .ok (.ifCond .gt (7), 3) := F_MD_isBetween_0.2.2.2.2.2.2.2.2.2.2.2.1
theorem d_MD_isBetween_22 : decode prog_12_method_110_code 22 = .ok (.iconst 1, 1) := F_MD_isBetween_0.2.2.2.2.2.2.2.2.2.2.2.2.1
theorem d_MD_isBetween_23 : decode prog_12_method_110_code 23 = .ok (.goto (4), 3) := F_MD_isBetween_0.2.2.2.2.2.2.2.2.2.2.2.2.2.1
theorem d_MD_isBetween_26 : decode prog_12_method_110_code 26 = .ok (.iconst 0, 1) := F_MD_isBetween_0.2.2.2.2.2.2.2.2.2.2.2.2.2.2.1
theorem d_MD_isBetween_27 : decode prog_12_method_110_code 27 = .ok (.ireturn, 1) := F_MD_isBetween_0.2.2.2.2.2.2.2.2.2.2.2.2.2.2.2.1
theorem F_MD_crossings_0 : Jvm.Free.DS.Facts prog_12_method_116_code 0 [(.aload_n 0, 1), (.iconst 0, 1), (.putfield 74, 3), (.aload_n 0, 1), (.iload_n 1, 1), (.invokevirtual 238, 3), (.ifCond .eq (11), 3), (.aload_n 0, 1), (.iload_n 2, 1), (.invokevirtual 238, 3), (.ifCond .ne (5), 3), (.iconst (-1), 1), (.ireturn, 1), (.iconst 0, 1), (.istore_n 3, 1), (.iconst 0, 1), (.istore 4, 2), (.iload 4, 2), (.iconst 4, 1), (.if_icmp .ge (45), 3), (.iconst 0, 1), (.istore 5, 2), (.iload 5, 2), (.iconst 4, 1), (.if_icmp .ge (30), 3), (.iload_n 3, 1), (.aload_n 0, 1), (.iload_n 1, 1), (.iload 4, 2), (.iload_n 2, 1), (.iload 5, 2), (.invokevirtual 397, 3)] := Jvm.Free.DS.facts 0 _ (by decide +kernel) (by decide +kernel)
theorem d_MD_crossings_0 : decode prog_12_method_116_code 0 = .ok (.aload_n 0, 1) := F_MD_crossings_0.1
theorem d_MD_crossings_1 : decode prog_12_method_116_code 1 = .ok (.iconst 0, 1) := F_MD_crossings_0.2.1
theorem d_MD_crossings_2 : decode prog_12_method_116_code 2 = .ok (.putfield 74, 3) := F_MD_crossings_0.2.2.1
theorem d_MD_crossings_5 : decode prog_12_method_116_code 5 = .ok (.aload_n 0, 1) := F_MD_crossings_0.2.2.2.1
theorem d_MD_crossings_6 : decode prog_12_method_116_code 6 = .ok (.iload_n 1, 1) := F_MD_crossings_0.2.2.2.2.1
theorem d_MD_crossings_7 : decode prog_12_method_116_code 7 = .ok (.invokevirtual 238, 3) := F_MD_crossings_0.2.2.2.2.2.1
theorem d_MD_crossings_10 : decode prog_12_method_116_code 10 = .ok (.ifCond .eq (11), 3) := F_MD_crossings_0.2.2.2.2.2.2.1
theorem d_MD_crossings_13 : decode prog_12_method_116_code 13 = .ok (.aload_n 0, 1) := F_MD_crossings_0.2.2.2.2.2.2.2.1
theorem d_MD_crossings_14 : decode prog_12_method_116_code 14 = .ok (.iload_n 2, 1) := F_MD_crossings_0.2.2.2.2.2.2.2.2.1
theorem d_MD_crossings_15 : decode prog_12_method_116_code 15 = .ok (.invokevirtual 238, 3) := F_MD_crossings_0.2.2.2.2.2.2.2.2.2.1
theorem d_MD_crossings_18 : decode prog_12_method_116_code 18 = .ok (.ifCond .ne (5), 3) := F_MD_crossings_0.2.2.2.2.2.2.2.2.2.2.1
theorem d_MD_crossings_21 : decode prog_12_method_116_code 21 = .ok (.iconst (-1), 1) := F_MD_crossings_0.2.2.2.2.2.2.2.2.2.2.2.1
theorem d_MD_crossings_22 : decode prog_12_method_116_code 22 = .ok (.ireturn, 1) := F_MD_crossings_0.2.2.2.2.2.2.2.2.2.2.2.2.1
theorem d_MD_crossings_23 : decode prog_12_method_116_code 23 = .ok (.iconst 0, 1) := F_MD_crossings_0.2.2.2.2.2.2.2.2.2.2.2.2.2.1
theorem d_MD_crossings_24 : decode prog_12_method_116_code 24 = .ok (.istore_n 3, 1) := F_MD_crossings_0.2.2.2.2.2.2.2.2.2.2.2.2.2.2.1
theorem d_MD_crossings_25 : decode prog_12_method_116_code 25 = .ok (.iconst 0, 1) := F_MD_crossings_0.2.2.2.2.2.2.2.2.2.2.2.2.2.2.2.1
theorem d_MD_crossings_26 : decode prog_12_method_116_code 26 = .ok (.istore 4, 2) := F_MD_crossings_0.2.2.2.2.2.2.2.2.2.2.2.2.2.2.2.2.1
theorem d_MD_crossings_28 : decode prog_12_method_116_code 28 = .ok (.iload 4, 2) := F_MD_crossings_0.2.2.2.2.2.2.2.2.2.2.2.2.2.2.2.2.2.1
theorem d_MD_crossings_30 : decode prog_12_method_116_code 30 = .ok (.iconst 4, 1) := F_MD_crossings_0.2.2.2.2.2.2.2.2.2.2.2.2.2.2.2.2.2.2.1
theorem d_MD_crossings_31 : decode prog_12_method_116_code 31 = .ok (.if_icmp .ge (45), 3) := F_MD_crossings_0.2.2.2.2.2.2.2.2.2.2.2.2.2.2.2.2.2.2.2.1
theorem d_MD_crossings_34 : decode prog_12_method_116_code 34 = .ok (.iconst 0, 1) := F_MD_crossings_0.2.2.2.2.2.2.2.2.2.2.2.2.2.2.2.2.2.2.2.2.1
theorem d_MD_crossings_35 : decode prog_12_method_116_code 35 = .ok (.istore 5, 2) := F_MD_crossings_0.2.2.2.2.2.2.2.2.2.2.2.2.2.2.2.2.2.2.2.2.2.1
theorem d_MD_crossings_37 : decode prog_12_method_116_code 37 = .ok (.iload 5, 2) := F_MD_crossings_0.2.2.2.2.2.2.2.2.2.2.2.2.2.2.2.2.2.2.2.2.2.2.1
theorem d_MD_crossings_39 : decode prog_12_method_116_code 39 = .ok (.iconst 4, 1) := F_MD_crossings_0.2.2.2.2.2.2.2.2.2.2.2.2.2.2.2.2.2.2.2.2.2.2.2.1
theorem d_MD_crossings_40 : decode prog_12_method_116_code 40 = .ok (.if_icmp .ge (30), 3) := F_MD_crossings_0.2.2.2.2.2.2.2.2.2.2.2.2.2.2.2.2.2.2.2.2.2.2.2.2.1
theorem d_MD_crossings_43 : decode prog_12_method_116_code 43 = .ok (.iload_n 3, 1) := F_MD_crossings_0.2.2.2.2.2.2.2.2.2.2.2.2.2.2.2.2.2.2.2.2.2.2.2.2.2.1
theorem d_MD_crossings_44 : decode prog_12_method_116_code 44 = .ok (.aload_n 0, 1) := F_MD_crossings_0.2.2.2.2.2.2.2.2.2.2.2.2.2.2.2.2.2.2.2.2.2.2.2.2.2.2.1
theorem d_MD_crossings_45 : decode prog_12_method_116_code 45 = .ok (.iload_n 1, 1) := F_MD_crossings_0.2.2.2.2.2.2.2.2.2.2.2.2.2.2.2.2.2.2.2.2.2.2.2.2.2.2.2.1
theorem d_MD_crossings_46 : decode prog_12_method_116_code 46 = .ok (.iload 4, 2) := F_MD_crossings_0.2.2.2.2.2.2.2.2.2.2.2.2.2.2.2.2.2.2.2.2.2.2.2.2.2.2.2.2.1
theorem d_MD_crossings_48 : decode prog_12_method_116_code 48 = .ok (.iload_n 2, 1) := F_MD_crossings_0.2.2.2.2.2.2.2.2.2.2.2.2.2.2.2.2.2.2.2.2.2.2.2.2.2.2.2.2.2.1
theorem d_MD_crossings_49 : decode prog_12_method_116_code 49 = .ok (.iload 5, 2) := F_MD_crossings_0.2.2.2.2.2.2.2.2.2.2.2.2.2.2.2.2.2.2.2.2.2.2.2.2.2.2.2.2.2.2.1
theorem d_MD_crossings_51 : decode prog_12_method_116_code 51 = .ok (.invokevirtual 397, 3) := F_MD_crossings_0.2.2.2.2.2.2.2.2.2.2.2.2.2.2.2.2.2.2.2.2.2.2.2.2.2.2.2.2.2.2.2.1
theorem F_MD_crossings_54 : Jvm.Free.DS.Facts prog_12_method_116_code 54 [(.ifCond .eq (7), 3), (.iconst 1, 1), (.goto (4), 3), (.iconst 0, 1), (.iadd, 1), (.istore_n 3, 1), (.iinc 5 (1), 3), (.goto (-30), 3), (.iinc 4 (1), 3), (.goto (-45), 3), (.iload_n 3, 1), (.ireturn, 1)] := Jvm.Free.DS.facts 54 _ (by decide +kernel) (by decide +kernel)
theorem d_MD_crossings_54 : decode prog_12_method_116_code 54 = .ok (.ifCond .eq (7), 3) := F_MD_crossings_54.1
theorem d_MD_crossings_57 : decode prog_12_method_116_code 57 = .ok (.iconst 1, 1) := F_MD_crossings_54.2.1
theorem d_MD_crossings_58 : decode prog_12_method_116_code 58 = .ok (.goto (4), 3) := F_MD_crossings_54.2.2.1
theorem d_MD_crossings_61 : decode prog_12_method_116_code 61 = .ok (.iconst 0, 1) := F_MD_crossings_54.2.2.2.1
theorem d_MD_crossings_62 : decode prog_12_method_116_code 62 = .ok (.iadd, 1) := F_MD_crossings_54.2.2.2.2.1
theorem d_MD_crossings_63 : decode prog_12_method_116_code 63 = .ok (.istore_n 3, 1) := F_MD_crossings_54.2.2.2.2.2.1
theorem d_MD_crossings_64 : decode prog_12_method_116_code 64 = .ok (.iinc 5 (1), 3) := F_MD_crossings_54.2.2.2.2.2.2.1
theorem d_MD_crossings_67 : decode prog_12_method_116_code 67 = .ok (.goto (-30), 3) := F_MD_crossings_54.2.2.2.2.2.2.2.1
theorem d_MD_crossings_70 : decode prog_12_method_116_code 70 = .ok (.iinc 4 (1), 3) := F_MD_crossings_54.2.2.2.2.2.2.2.2.1
theorem d_MD_crossings_73 : decode prog_12_method_116_code 73 = .ok (.goto (-45), 3) := F_MD_crossings_54.2.2.2.2.2.2.2.2.2.1
theorem d_MD_crossings_76 : decode prog_12_method_116_code 76 = .ok (.iload_n 3, 1) := F_MD_crossings_54.2.2.2.2.2.2.2.2.2.2.1
theorem d_MD_crossings_77 : decode prog_12_method_116_code 77 = .ok (.ireturn, 1) := F_MD_crossings_54.2.2.2.2.2.2.2.2.2.2.2.1
theorem F_MD_doMeet_0 : Jvm.Free.DS.Facts prog_12_method_115_code 0 [(.iload 4, 2), (.iconst 1, 1), (.iadd, 1), (.iconst 4, 1), (.irem, 1), (.istore 5, 2), (.iload_n 2, 1), (.iconst 1, 1), (.iadd, 1), (.iconst 4, 1), (.irem, 1), (.istore 6, 2), (.aload_n 0, 1), (.iload_n 1, 1), (.iload_n 2, 1), (.iload_n 3, 1), (.iload 4, 2), (.invokevirtual 389, 3), (.ifCond .ne (40), 3), (.aload_n 0, 1), (.iload_n 1, 1), (.iload_n 2, 1), (.iload_n 3, 1), (.iload 5, 2), (.invokevirtual 389, 3), (.ifCond .ne (28), 3), (.aload_n 0, 1), (.iload_n 3, 1), (.iload 4, 2), (.iload_n 1, 1), (.iload_n 2, 1), (.invokevirtual 389, 3)] := Jvm.Free.DS.facts 0 _ (by decide +kernel) (by decide +kernel)
theorem d_MD_doMeet_0 : decode prog_12_method_115_code 0 = .ok (.iload 4, 2) := F_MD_doMeet_0.1
theorem d_MD_doMeet_2 : decode prog_12_method_115_code 2 = .ok (.iconst 1, 1) := F_MD_doMeet_0.2.1
theorem d_MD_doMeet_3 : decode prog_12_method_115_code 3 = .ok (.iadd, 1) := F_MD_doMeet_0.2.2.1
theorem d_MD_doMeet_4 : decode prog_12_method_115_code 4 = .ok (.iconst 4, 1) := F_MD_doMeet_0.2.2.2.1
theorem d_MD_doMeet_5 : decode prog_12_method_115_code 5 = .ok (.irem, 1) := F_MD_doMeet_0.2.2.2.2.1
theorem d_MD_doMeet_6 : decode prog_12_method_115_code 6 = .ok (.istore 5, 2) := F_MD_doMeet_0.2.2.2.2.2.1
theorem d_MD_doMeet_8 : decode prog_12_method_115_code 8 = .ok (.iload_n 2, 1) := F_MD_doMeet_0.2.2.2.2.2.2.1
theorem d_MD_doMeet_9 : decode prog_12_method_115_code 9 = .ok (.iconst 1, 1) := F_MD_doMeet_0.2.2.2.2.2.2.2.1
theorem d_MD_doMeet_10 : decode prog_12_method_115_code 10 = .ok (.iadd, 1) := F_MD_doMeet_0.2.2.2.2.2.2.2.2.1
theorem d_MD_doMeet_11 : decode prog_12_method_115_code 11 = .ok (.iconst 4, 1) := F_MD_doMeet_0.2.2.2.2.2.2.2.2.2.1
theorem d_MD_doMeet_12 : decode prog_12_method_115_code 12 = .ok (.irem, 1) := F_MD_doMeet_0.2.2.2.2.2.2.2.2.2.2.1
theorem d_MD_doMeet_13 : decode prog_12_method_115_code 13 = .ok (.istore 6, 2) := F_MD_doMeet_0.2.2.2.2.2.2.2.2.2.2.2.1
theorem d_MD_doMeet_15 : decode prog_12_method_115_code 15 = .ok (.aload_n 0, 1) := F_MD_doMeet_0.2.2.2.2.2.2.2.2.2.2.2.2.1
theorem d_MD_doMeet_16 : decode prog_12_method_115_code 16 = .ok (.iload_n 1, 1) := F_MD_doMeet_0.2.2.2.2.2.2.2.2.2.2.2.2.2.1
theorem d_MD_doMeet_17 : decode prog_12_method_115_code 17 = .ok (.iload_n 2, 1) := F_MD_doMeet_0.2.2.2.2.2.2.2.2.2.2.2.2.2.2.1
theorem d_MD_doMeet_18 : decode prog_12_method_115_code 18 = .ok (.iload_n 3, 1) := F_MD_doMeet_0.2.2.2.2.2.2.2.2.2.2.2.2.2.2.2.1
theorem d_MD_doMeet_19 : decode prog_12_method_115_code 19 = .ok (.iload 4, 2) := F_MD_doMeet_0.2.2.2.2.2.2.2.2.2.2.2.2.2.2.2.2.1
theorem d_MD_doMeet_21 : decode prog_12_method_115_code 21 = .ok (.invokevirtual 389, 3) := F_MD_doMeet_0.2.2.2.2.2.2.2.2.2.2.2.2.2.2.2.2.2.1
theorem d_MD_doMeet_24 : decode prog_12_method_115_code 24 = .ok (.ifCond .ne (40), 3) := F_MD_doMeet_0.2.2.2.2.2.2.2.2.2.2.2.2.2.2.2.2.2.2.1
theorem d_MD_doMeet_27 : decode prog_12_method_115_code 27 = .ok (.aload_n 0, 1) := F_MD_doMeet_0.2.2.2.2.2.2.2.2.2.2.2.2.2.2.2.2.2.2.2.1
theorem d_MD_doMeet_28 : decode prog_12_method_115_code 28 = .ok (.iload_n 1, 1) := F_MD_doMeet_0.2.2.2.2.2.2.2.2.2.2.2.2.2.2.2.2.2.2.2.2.1
theorem d_MD_doMeet_29 : decode prog_12_method_115_code 29 = .ok (.iload_n 2, 1) := F_MD_doMeet_0.2.2.2.2.2.2.2.2.2.2.2.2.2.2.2.2.2.2.2.2.2.1
theorem d_MD_doMeet_30 : decode prog_12_method_115_code 30 = .ok (.iload_n 3, 1) := F_MD_doMeet_0.2.2.2.2.2.2.2.2.2.2.2.2.2.2.2.2.2.2.2.2.2.2.1
theorem d_MD_doMeet_31 : decode prog_12_method_115_code 31 = .ok (.iload 5, 2) := F_MD_doMeet_0.2.2.2.2.2.2.2.2.2.2.2.2.2.2.2.2.2.2.2.2.2.2.2.1
theorem d_MD_doMeet_33 : decode prog_12_method_115_code 33 = .ok (.invokevirtual 389, 3) := F_MD_doMeet_0.2.2.2.2.2.2.2.2.2.2.2.2.2.2.2.2.2.2.2.2.2.2.2.2.1
theorem d_MD_doMeet_36 : decode prog_12_method_115_code 36 = .ok (.ifCond .ne (28), 3) := F_MD_doMeet_0.2.2.2.2.2.2.2.2.2.2.2.2.2.2.2.2.2.2.2.2.2.2.2.2.2.1
theorem d_MD_doMeet_39 : decode prog_12_method_115_code 39 = .ok (.aload_n 0, 1) := F_MD_doMeet_0.2.2.2.2.2.2.2.2.2.2.2.2.2.2.2.2.2.2.2.2.2.2.2.2.2.2.1
theorem d_MD_doMeet_40 : decode prog_12_method_115_code 40 = .ok (.iload_n 3, 1) := F_MD_doMeet_0.2.2.2.2.2.2.2.2.2.2.2.2.2.2.2.2.2.2.2.2.2.2.2.2.2.2.2.1
theorem d_MD_doMeet_41 : decode prog_12_method_115_code 41 = .ok (.iload 4, 2) := F_MD_doMeet_0.2.2.2.2.2.2.2.2.2.2.2.2.2.2.2.2.2.2.2.2.2.2.2.2.2.2.2.2.1
theorem d_MD_doMeet_43 : decode prog_12_method_115_code 43 = .ok (.iload_n 1, 1) := F_MD_doMeet_0.2.2.2.2.2.2.2.2.2.2.2.2.2.2.2.2.2.2.2.2.2.2.2.2.2.2.2.2.2.1
theorem d_MD_doMeet_44 : decode prog_12_method_115_code 44 = .ok (.iload_n 2, 1) := F_MD_doMeet_0.2.2.2.2.2.2.2.2.2.2.2.2.2.2.2.2.2.2.2.2.2.2.2.2.2.2.2.2.2.2.1
theorem d_MD_doMeet_45 : decode prog_12_method_115_code 45 = .ok (.invokevirtual 389, 3) := F_MD_doMeet_0.2.2.2.2.2.2.2.2.2.2.2.2.2.2.2.2.2.2.2.2.2.2.2.2.2.2.2.2.2.2.2.1
theorem F_MD_doMeet_48 : Jvm.Free.DS.Facts prog_12_method_115_code 48 [(.ifCond .ne (16), 3), (.aload_n 0, 1), (.iload_n 3, 1), (.iload 4, 2), (.iload_n 1, 1), (.iload 6, 2), (.invokevirtual 389, 3), (.ifCond .eq (5), 3), (.iconst 1, 1), (.ireturn, 1), (.aload_n 0, 1), (.iload_n 1, 1), (.iload_n 2, 1), (.iload_n 3, 1), (.iload 4, 2), (.invokevirtual 393, 3), (.aload_n 0, 1), (.iload_n 1, 1), (.iload_n 2, 1), (.iload_n 3, 1), (.iload 5, 2), (.invokevirtual 393, 3), (.imul, 1), (.ifCond .ge (7), 3), (.iconst 1, 1), (.goto (4), 3), (.iconst 0, 1), (.istore 7, 2), (.iload 7, 2), (.ifCond .eq (30), 3), (.aload_n 0, 1), (.iload_n 3, 1)] := Jvm.Free.DS.facts 48 _ (by decide +kernel) (by decide +kernel)
theorem d_MD_doMeet_48 : decode prog_12_method_115_code 48 = .ok (.ifCond .ne (16), 3) := F_MD_doMeet_48.1
theorem d_MD_doMeet_51 : decode prog_12_method_115_code 51 = .ok (.aload_n 0, 1) := F_MD_doMeet_48.2.1
theorem d_MD_doMeet_52 : decode prog_12_method_115_code 52 = .ok (.iload_n 3, 1) := F_MD_doMeet_48.2.2.1
theorem d_MD_doMeet_53 : decode prog_12_method_115_code 53 = .ok (.iload 4, 2) := F_MD_doMeet_48.2.2.2.1
theorem d_MD_doMeet_55 : decode prog_12_method_115_code 55 = .ok (.iload_n 1, 1) := F_MD_doMeet_48.2.2.2.2.1
theorem d_MD_doMeet_56 : decode prog_12_method_115_code 56 = .ok (.iload 6, 2) := F_MD_doMeet_48.2.2.2.2.2.1
theorem d_MD_doMeet_58 : decode prog_12_method_115_code 58 = .ok (.invokevirtual 389, 3) := F_MD_doMeet_48.2.2.2.2.2.2.1
theorem d_MD_doMeet_61 : decode prog_12_method_115_code 61 = .ok (.ifCond .eq (5), 3) := F_MD_doMeet_48.2.2.2.2.2.2.2.1
theorem d_MD_doMeet_64 : decode prog_12_method_115_code 64 = .ok (.iconst 1, 1) := F_MD_doMeet_48.2.2.2.2.2.2.2.2.1
theorem d_MD_doMeet_65 : decode prog_12_method_115_code 65 = .ok (.ireturn, 1) := F_MD_doMeet_48.2.2.2.2.2.2.2.2.2.1
theorem d_MD_doMeet_66 : decode prog_12_method_115_code 66 = .ok (.aload_n 0, 1) := F_MD_doMeet_48.2.2.2.2.2.2.2.2.2.2.1
theorem d_MD_doMeet_67 : decode prog_12_method_115_code 67 = .ok (.iload_n 1, 1) := F_MD_doMeet_48.2.2.2.2.2.2.2.2.2.2.2.1
theorem d_MD_doMeet_68 : decode prog_12_method_115_code 68 = .ok (.iload_n 2, 1) := F_MD_doMeet_48.2.2.2.2.2.2.2.2.2.2.2.2.1
theorem d_MD_doMeet_69 : decode prog_12_method_115_code 69 = .ok (.iload_n 3, 1) := F_MD_doMeet_48.2.2.2.2.2.2.2.2.2.2.2.2.2.1
theorem d_MD_doMeet_70 : decode prog_12_method_115_code 70 = .ok (.iload 4, 2) := F_MD_doMeet_48.2.2.2.2.2.2.2.2.2.2.2.2.2.2.1
theorem d_MD_doMeet_72 : decode prog_12_method_115_code 72 = .ok (.invokevirtual 393, 3) := F_MD_doMeet_48.2.2.2.2.2.2.2.2.2.2.2.2.2.2.2.1
theorem d_MD_doMeet_75 : decode prog_12_method_115_code 75 = .ok (.aload_n 0, 1) := F_MD_doMeet_48.2.2.2.2.2.2.2.2.2.2.2.2.2.2.2.2.1
theorem d_MD_doMeet_76 : decode prog_12_method_115_code 76 = .ok (.iload_n 1, 1) := F_MD_doMeet_48.2.2.2.2.2.2.2.2.2.2.2.2.2.2.2.2.2.1
theorem d_MD_doMeet_77 : decode prog_12_method_115_code 77 = .ok (.iload_n 2, 1) := F_MD_doMeet_48.2.2.2.2.2.2.2.2.2.2.2.2.2.2.2.2.2.2.1
theorem d_MD_doMeet_78 : decode prog_12_method_115_code 78 = .ok (.iload_n 3, 1) := F_MD_doMeet_48.2.2.2.2.2.2.2.2.2.2.2.2.2.2.2.2.2.2.2.1
theorem d_MD_doMeet_79 : decode prog_12_method_115_code 79 = .ok (.iload 5, 2) := F_MD_doMeet_48.2.2.2.2.2.2.2.2.2.2.2.2.2.2.2.2.2.2.2.2.1
theorem d_MD_doMeet_81 : decode prog_12_method_115_code 81 = .ok (.invokevirtual 393, 3) := F_MD_doMeet_48.2.2.2.2.2.2.2.2.2.2.2.2.2.2.2.2.2.2.2.2.2.1
theorem d_MD_doMeet_84 : decode prog_12_method_115_code 84 = .ok (.imul, 1) := F_MD_doMeet_48.2.2.2.2.2.2.2.2.2.2.2.2.2.2.2.2.2.2.2.2.2.2.1
theorem d_MD_doMeet_85 : decode prog_12_method_115_code 85 = .ok (.ifCond .ge (7), 3) := F_MD_doMeet_48.2.2.2.2.2.2.2.2.2.2.2.2.2.2.2.2.2.2.2.2.2.2.2.1
theorem d_MD_doMeet_88 : decode prog_12_method_115_code 88 = .ok (.iconst 1, 1) := F_MD_doMeet_48.2.2.2.2.2.2.2.2.2.2.2.2.2.2.2.2.2.2.2.2.2.2.2.2.1
theorem d_MD_doMeet_89 : decode prog_12_method_115_code 89 = .ok (.goto (4), 3) := F_MD_doMeet_48.2.2.2.2.2.2.2.2.2.2.2.2.2.2.2.2.2.2.2.2.2.2.2.2.2.1
theorem d_MD_doMeet_92 : decode prog_12_method_115_code 92 = .ok (.iconst 0, 1) := F_MD_doMeet_48.2.2.2.2.2.2.2.2.2.2.2.2.2.2.2.2.2.2.2.2.2.2.2.2.2.2.1
theorem d_MD_doMeet_93 : decode prog_12_method_115_code 93 = .ok (.istore 7, 2) := F_MD_doMeet_48.2.2.2.2.2.2.2.2.2.2.2.2.2.2.2.2.2.2.2.2.2.2.2.2.2.2.2.1
theorem d_MD_doMeet_95 : decode prog_12_method_115_code 95 = .ok (.iload 7, 2) := F_MD_doMeet_48.2.2.2.2.2.2.2.2.2.2.2.2.2.2.2.2.2.2.2.2.2.2.2.2.2.2.2.2.1
theorem d_MD_doMeet_97 : decode prog_12_method_115_code 97 = .ok (.ifCond .eq (30), 3) := F_MD_doMeet_48.2.2.2.2.2.2.2.2.2.2.2.2.2.2.2.2.2.2.2.2.2.2.2.2.2.2.2.2.2.1
theorem d_MD_doMeet_100 : decode prog_12_method_115_code 100 = .ok (.aload_n 0, 1) := F_MD_doMeet_48.2.2.2.2.2.2.2.2.2.2.2.2.2.2.2.2.2.2.2.2.2.2.2.2.2.2.2.2.2.2.1
theorem d_MD_doMeet_101 : decode prog_12_method_115_code 101 = .ok (.iload_n 3, 1) := F_MD_doMeet_48.2.2.2.2.2.2.2.2.2.2.2.2.2.2.2.2.2.2.2.2.2.2.2.2.2.2.2.2.2.2.2.1
theorem F_MD_doMeet_102 : Jvm.Free.DS.Facts prog_12_method_115_code 102 [(.iload 4, 2), (.iload_n 1, 1), (.iload_n 2, 1), (.invokevirtual 393, 3), (.aload_n 0, 1), (.iload_n 3, 1), (.iload 4, 2), (.iload_n 1, 1), (.iload 6, 2), (.invokevirtual 393, 3), (.imul, 1), (.ifCond .ge (7), 3), (.iconst 1, 1), (.goto (4), 3), (.iconst 0, 1), (.ireturn, 1)] := Jvm.Free.DS.facts 102 _ (by decide +kernel) (by decide +kernel)
theorem d_MD_doMeet_102 : decode prog_12_method_115_code 102 = .ok (.iload 4, 2) := F_MD_doMeet_102.1
theorem d_MD_doMeet_104 : decode prog_12_method_115_code 104 = .ok (.iload_n 1, 1) := F_MD_doMeet_102.2.1
theorem d_MD_doMeet_105 : decode prog_12_method_115_code 105 = .ok (.iload_n 2, 1) := F_MD_doMeet_102.2.2.1
theorem d_MD_doMeet_106 : decode prog_12_method_115_code 106 = .ok (.invokevirtual 393, 3) := F_MD_doMeet_102.2.2.2.1
theorem d_MD_doMeet_109 : decode prog_12_method_115_code 109 = .ok (.aload_n 0, 1) := F_MD_doMeet_102.2.2.2.2.1
theorem d_MD_doMeet_110 : decode prog_12_method_115_code 110 = .ok (.iload_n 3, 1) := F_MD_doMeet_102.2.2.2.2.2.1
theorem d_MD_doMeet_111 : decode prog_12_method_115_code 111 = .ok (.iload 4, 2) := F_MD_doMeet_102.2.2.2.2.2.2.1
theorem d_MD_doMeet_113 : decode prog_12_method_115_code 113 = .ok (.iload_n 1, 1) := F_MD_doMeet_102.2.2.2.2.2.2.2.1
theorem d_MD_doMeet_114 : decode prog_12_method_115_code 114 = .ok (.iload 6, 2) := F_MD_doMeet_102.2.2.2.2.2.2.2.2.1
theorem d_MD_doMeet_116 : decode prog_12_method_115_code 116 = .ok (.invokevirtual 393, 3) := F_MD_doMeet_102.2.2.2.2.2.2.2.2.2.1
theorem d_MD_doMeet_119 : decode prog_12_method_115_code 119 = .ok (.imul, 1) := F_MD_doMeet_102.2.2.2.2.2.2.2.2.2.2.1
theorem d_MD_doMeet_120 : decode prog_12_method_115_code 120 = .ok (.ifCond .ge (7), 3) := F_MD_doMeet_102.2.2.2.2.2.2.2.2.2.2.2.1
theorem d_MD_doMeet_123 : decode prog_12_method_115_code 123 = .ok (.iconst 1, 1) := F_MD_doMeet_102.2.2.2.2.2.2.2.2.2.2.2.2.1
theorem d_MD_doMeet_124 : decode prog_12_method_115_code 124 = .ok (.goto (4), 3) := F_MD_doMeet_102.2.2.2.2.2.2.2.2.2.2.2.2.2.1
theorem d_MD_doMeet_127 : decode prog_12_method_115_code 127 = .ok (.iconst 0, 1) := F_MD_doMeet_102.2.2.2.2.2.2.2.2.2.2.2.2.2.2.1
theorem d_MD_doMeet_128 : decode prog_12_method_115_code 128 = .ok (.ireturn, 1) := F_MD_doMeet_102.2.2.2.2.2.2.2.2.2.2.2.2.2.2.2.1
