/-! declarations and decodings of methods (by program) -/
def M_MD_diagonal : pM := (⟨"CornerMapsModel", "diagonal", "(III)J"⟩, prog_12_method_119_code, 4, some .long)
theorem co_MD_diagonal : CalOK M_MD_diagonal 3 := ⟨g_at 2090 (by decide +kernel) rfl, g_at 13 (by decide +kernel) rfl, by decide +kernel, by decide +kernel, by decide +kernel⟩
theorem pn_MD_diagonal : plainName M_MD_diagonal.1.cls = true := by decide +kernel
def M_MD_laysDiagonal : pM := (⟨"CornerMapsModel", "laysDiagonal", "(II)V"⟩, prog_12_method_118_code, 9, none)
theorem co_MD_laysDiagonal : CalOK M_MD_laysDiagonal 2 := ⟨g_at 2094 (by decide +kernel) rfl, g_at 13 (by decide +kernel) rfl, by decide +kernel, by decide +kernel, by decide +kernel⟩
theorem pn_MD_laysDiagonal : plainName M_MD_laysDiagonal.1.cls = true := by decide +kernel
def M_MD_joins : pM := (⟨"CornerMapsModel", "joins", "([JIII)V"⟩, prog_12_method_117_code, 5, none)
theorem co_MD_joins : CalOK M_MD_joins 4 := ⟨g_at 2098 (by decide +kernel) rfl, g_at 13 (by decide +kernel) rfl, by decide +kernel, by decide +kernel, by decide +kernel⟩
theorem pn_MD_joins : plainName M_MD_joins.1.cls = true := by decide +kernel
def M_MD_parallel : pM := (⟨"CornerMapsModel", "parallel", "(II)I"⟩, prog_12_method_120_code, 4, some .int)
theorem co_MD_parallel : CalOK M_MD_parallel 2 := ⟨g_at 2102 (by decide +kernel) rfl, g_at 13 (by decide +kernel) rfl, by decide +kernel, by decide +kernel, by decide +kernel⟩
theorem pn_MD_parallel : plainName M_MD_parallel.1.cls = true := by decide +kernel
def M_MD_shapeBy : pM := (⟨"CornerMapsModel", "shapeBy", "(II)I"⟩, prog_12_method_122_code, 8, some .int)
theorem co_MD_shapeBy : CalOK M_MD_shapeBy 2 := ⟨g_at 2106 (by decide +kernel) rfl, g_at 13 (by decide +kernel) rfl, by decide +kernel, by decide +kernel, by decide +kernel⟩
theorem pn_MD_shapeBy : plainName M_MD_shapeBy.1.cls = true := by decide +kernel
def M_MD_turnBy : pM := (⟨"CornerMapsModel", "turnBy", "(IIIII)I"⟩, prog_12_method_121_code, 7, some .int)
theorem co_MD_turnBy : CalOK M_MD_turnBy 5 := ⟨g_at 2110 (by decide +kernel) rfl, g_at 13 (by decide +kernel) rfl, by decide +kernel, by decide +kernel, by decide +kernel⟩
theorem pn_MD_turnBy : plainName M_MD_turnBy.1.cls = true := by decide +kernel
def M_MD_doCrossBy : pM := (⟨"CornerMapsModel", "doCrossBy", "(IIIIII)Z"⟩, prog_12_method_123_code, 7, some .boolean)
theorem co_MD_doCrossBy : CalOK M_MD_doCrossBy 6 := ⟨g_at 2114 (by decide +kernel) rfl, g_at 13 (by decide +kernel) rfl, by decide +kernel, by decide +kernel, by decide +kernel⟩
theorem pn_MD_doCrossBy : plainName M_MD_doCrossBy.1.cls = true := by decide +kernel
def M_MD_symmetries : pM := (⟨"CornerMapsModel", "symmetries", "(II)I"⟩, prog_12_method_125_code, 5, some .int)
theorem co_MD_symmetries : CalOK M_MD_symmetries 2 := ⟨g_at 2118 (by decide +kernel) rfl, g_at 13 (by decide +kernel) rfl, by decide +kernel, by decide +kernel, by decide +kernel⟩
theorem pn_MD_symmetries : plainName M_MD_symmetries.1.cls = true := by decide +kernel
def M_MD_laysOrder : pM := (⟨"CornerMapsModel", "laysOrder", "(III)V"⟩, prog_12_method_124_code, 11, none)
theorem co_MD_laysOrder : CalOK M_MD_laysOrder 3 := ⟨g_at 2122 (by decide +kernel) rfl, g_at 13 (by decide +kernel) rfl, by decide +kernel, by decide +kernel, by decide +kernel⟩
theorem pn_MD_laysOrder : plainName M_MD_laysOrder.1.cls = true := by decide +kernel
def M_MD_symmetry : pM := (⟨"CornerMapsModel", "symmetry", "(II)I"⟩, prog_12_method_126_code, 3, some .int)
theorem co_MD_symmetry : CalOK M_MD_symmetry 2 := ⟨g_at 2126 (by decide +kernel) rfl, g_at 13 (by decide +kernel) rfl, by decide +kernel, by decide +kernel, by decide +kernel⟩
theorem pn_MD_symmetry : plainName M_MD_symmetry.1.cls = true := by decide +kernel
def M_MD_word : pM := (⟨"CornerMapsModel", "word", "(II)I"⟩, prog_12_method_130_code, 3, some .int)
theorem co_MD_word : CalOK M_MD_word 2 := ⟨g_at 2130 (by decide +kernel) rfl, g_at 13 (by decide +kernel) rfl, by decide +kernel, by decide +kernel, by decide +kernel⟩
theorem pn_MD_word : plainName M_MD_word.1.cls = true := by decide +kernel
def M_MD_seeksRow : pM := (⟨"CornerMapsModel", "seeksRow", "(I)V"⟩, prog_12_method_128_code, 5, none)
theorem co_MD_seeksRow : CalOK M_MD_seeksRow 1 := ⟨g_at 2134 (by decide +kernel) rfl, g_at 13 (by decide +kernel) rfl, by decide +kernel, by decide +kernel, by decide +kernel⟩
theorem pn_MD_seeksRow : plainName M_MD_seeksRow.1.cls = true := by decide +kernel
def M_MD_found : pM := (⟨"CornerMapsModel", "found", "(IIII)V"⟩, prog_12_method_127_code, 5, none)
theorem co_MD_found : CalOK M_MD_found 4 := ⟨g_at 2138 (by decide +kernel) rfl, g_at 13 (by decide +kernel) rfl, by decide +kernel, by decide +kernel, by decide +kernel⟩
theorem pn_MD_found : plainName M_MD_found.1.cls = true := by decide +kernel
def M_MD_seeksThird : pM := (⟨"CornerMapsModel", "seeksThird", "(III)V"⟩, prog_12_method_129_code, 6, none)
theorem co_MD_seeksThird : CalOK M_MD_seeksThird 3 := ⟨g_at 2142 (by decide +kernel) rfl, g_at 13 (by decide +kernel) rfl, by decide +kernel, by decide +kernel, by decide +kernel⟩
theorem pn_MD_seeksThird : plainName M_MD_seeksThird.1.cls = true := by decide +kernel
def M_MD_generated : pM := (⟨"CornerMapsModel", "generated", "(I)I"⟩, prog_12_method_132_code, 4, some .int)
theorem co_MD_generated : CalOK M_MD_generated 1 := ⟨g_at 2146 (by decide +kernel) rfl, g_at 13 (by decide +kernel) rfl, by decide +kernel, by decide +kernel, by decide +kernel⟩
theorem pn_MD_generated : plainName M_MD_generated.1.cls = true := by decide +kernel
def M_MD_counts : pM := (⟨"CornerMapsModel", "counts", "()V"⟩, prog_12_method_131_code, 4, none)
theorem co_MD_counts : CalOK M_MD_counts 0 := ⟨g_at 2150 (by decide +kernel) rfl, g_at 13 (by decide +kernel) rfl, by decide +kernel, by decide +kernel, by decide +kernel⟩
theorem pn_MD_counts : plainName M_MD_counts.1.cls = true := by decide +kernel
def M_MD_spell : pM := (⟨"CornerMapsModel", "spell", "(II)I"⟩, prog_12_method_134_code, 4, some .int)
theorem co_MD_spell : CalOK M_MD_spell 2 := ⟨g_at 2154 (by decide +kernel) rfl, g_at 13 (by decide +kernel) rfl, by decide +kernel, by decide +kernel, by decide +kernel⟩
theorem pn_MD_spell : plainName M_MD_spell.1.cls = true := by decide +kernel
def M_MD_spells : pM := (⟨"CornerMapsModel", "spells", "(J)V"⟩, prog_12_method_133_code, 7, none)
theorem co_MD_spells : CalOK M_MD_spells 1 := ⟨g_at 2158 (by decide +kernel) rfl, g_at 13 (by decide +kernel) rfl, by decide +kernel, by decide +kernel, by decide +kernel⟩
theorem pn_MD_spells : plainName M_MD_spells.1.cls = true := by decide +kernel
def M_MD_pull : pM := (⟨"CornerMapsModel", "pull", "(IIIII)J"⟩, prog_12_method_136_code, 6, some .long)
theorem co_MD_pull : CalOK M_MD_pull 5 := ⟨g_at 2164 (by decide +kernel) rfl, g_at 13 (by decide +kernel) rfl, by decide +kernel, by decide +kernel, by decide +kernel⟩
theorem pn_MD_pull : plainName M_MD_pull.1.cls = true := by decide +kernel
def M_MD_laysPull : pM := (⟨"CornerMapsModel", "laysPull", "(IJJJ)V"⟩, prog_12_method_135_code, 8, none)
theorem co_MD_laysPull : CalOK M_MD_laysPull 4 := ⟨g_at 2168 (by decide +kernel) rfl, g_at 13 (by decide +kernel) rfl, by decide +kernel, by decide +kernel, by decide +kernel⟩
theorem pn_MD_laysPull : plainName M_MD_laysPull.1.cls = true := by decide +kernel
def M_MD_keepsLine : pM := (⟨"CornerMapsModel", "keepsLine", "(IIII)I"⟩, prog_12_method_137_code, 5, some .int)
theorem co_MD_keepsLine : CalOK M_MD_keepsLine 4 := ⟨g_at 2172 (by decide +kernel) rfl, g_at 13 (by decide +kernel) rfl, by decide +kernel, by decide +kernel, by decide +kernel⟩
theorem pn_MD_keepsLine : plainName M_MD_keepsLine.1.cls = true := by decide +kernel
def M_MD_side : pM := (⟨"CornerMapsModel", "side", "(III)J"⟩, prog_12_method_138_code, 4, some .long)
theorem co_MD_side : CalOK M_MD_side 3 := ⟨g_at 2176 (by decide +kernel) rfl, g_at 13 (by decide +kernel) rfl, by decide +kernel, by decide +kernel, by decide +kernel⟩
theorem pn_MD_side : plainName M_MD_side.1.cls = true := by decide +kernel
def M_MD_turnOf : pM := (⟨"CornerMapsModel", "turnOf", "(III)I"⟩, prog_12_method_140_code, 4, some .int)
theorem co_MD_turnOf : CalOK M_MD_turnOf 3 := ⟨g_at 2180 (by decide +kernel) rfl, g_at 13 (by decide +kernel) rfl, by decide +kernel, by decide +kernel, by decide +kernel⟩
theorem pn_MD_turnOf : plainName M_MD_turnOf.1.cls = true := by decide +kernel
def M_MD_isFinite : pM := (⟨"CornerMapsModel", "isFinite", "(I)Z"⟩, prog_12_method_139_code, 2, some .boolean)
theorem co_MD_isFinite : CalOK M_MD_isFinite 1 := ⟨g_at 2184 (by decide +kernel) rfl, g_at 13 (by decide +kernel) rfl, by decide +kernel, by decide +kernel, by decide +kernel⟩
theorem pn_MD_isFinite : plainName M_MD_isFinite.1.cls = true := by decide +kernel
def M_MD_gap : pM := (⟨"CornerMapsModel", "gap", "(III)J"⟩, prog_12_method_141_code, 10, some .long)
theorem co_MD_gap : CalOK M_MD_gap 3 := ⟨g_at 2188 (by decide +kernel) rfl, g_at 13 (by decide +kernel) rfl, by decide +kernel, by decide +kernel, by decide +kernel⟩
theorem pn_MD_gap : plainName M_MD_gap.1.cls = true := by decide +kernel
def M_MD_least : pM := (⟨"CornerMapsModel", "least", "(JJI)J"⟩, prog_12_method_142_code, 7, some .long)
theorem co_MD_least : CalOK M_MD_least 3 := ⟨g_at 2192 (by decide +kernel) rfl, g_at 13 (by decide +kernel) rfl, by decide +kernel, by decide +kernel, by decide +kernel⟩
theorem pn_MD_least : plainName M_MD_least.1.cls = true := by decide +kernel
def M_MD_middle : pM := (⟨"CornerMapsModel", "middle", "(III)J"⟩, prog_12_method_143_code, 8, some .long)
theorem co_MD_middle : CalOK M_MD_middle 3 := ⟨g_at 2196 (by decide +kernel) rfl, g_at 13 (by decide +kernel) rfl, by decide +kernel, by decide +kernel, by decide +kernel⟩
theorem pn_MD_middle : plainName M_MD_middle.1.cls = true := by decide +kernel
def M_MD_scale : pM := (⟨"CornerMapsModel", "scale", "(II)J"⟩, prog_12_method_144_code, 3, some .long)
theorem co_MD_scale : CalOK M_MD_scale 2 := ⟨g_at 2201 (by decide +kernel) rfl, g_at 13 (by decide +kernel) rfl, by decide +kernel, by decide +kernel, by decide +kernel⟩
theorem pn_MD_scale : plainName M_MD_scale.1.cls = true := by decide +kernel
def M_MD_partner : pM := (⟨"CornerMapsModel", "partner", "(I)I"⟩, prog_12_method_145_code, 3, some .int)
theorem co_MD_partner : CalOK M_MD_partner 1 := ⟨g_at 2205 (by decide +kernel) rfl, g_at 13 (by decide +kernel) rfl, by decide +kernel, by decide +kernel, by decide +kernel⟩
theorem pn_MD_partner : plainName M_MD_partner.1.cls = true := by decide +kernel
def M_MD_likeness : pM := (⟨"CornerMapsModel", "likeness", "(III)I"⟩, prog_12_method_146_code, 8, some .int)
theorem co_MD_likeness : CalOK M_MD_likeness 3 := ⟨g_at 2209 (by decide +kernel) rfl, g_at 13 (by decide +kernel) rfl, by decide +kernel, by decide +kernel, by decide +kernel⟩
theorem pn_MD_likeness : plainName M_MD_likeness.1.cls = true := by decide +kernel
def M_MD_biggest : pM := (⟨"CornerMapsModel", "biggest", "(I)I"⟩, prog_12_method_147_code, 5, some .int)
theorem co_MD_biggest : CalOK M_MD_biggest 1 := ⟨g_at 2213 (by decide +kernel) rfl, g_at 13 (by decide +kernel) rfl, by decide +kernel, by decide +kernel, by decide +kernel⟩
theorem pn_MD_biggest : plainName M_MD_biggest.1.cls = true := by decide +kernel
def M_MD_sizeOf : pM := (⟨"CornerMapsModel", "sizeOf", "(I)I"⟩, prog_12_method_159_code, 5, some .int)
theorem co_MD_sizeOf : CalOK M_MD_sizeOf 1 := ⟨g_at 2217 (by decide +kernel) rfl, g_at 13 (by decide +kernel) rfl, by decide +kernel, by decide +kernel, by decide +kernel⟩
theorem pn_MD_sizeOf : plainName M_MD_sizeOf.1.cls = true := by decide +kernel
def M_MD_kinds : pM := (⟨"CornerMapsModel", "kinds", "(I)I"⟩, prog_12_method_148_code, 4, some .int)
theorem co_MD_kinds : CalOK M_MD_kinds 1 := ⟨g_at 2221 (by decide +kernel) rfl, g_at 13 (by decide +kernel) rfl, by decide +kernel, by decide +kernel, by decide +kernel⟩
theorem pn_MD_kinds : plainName M_MD_kinds.1.cls = true := by decide +kernel
def M_MD_pairs : pM := (⟨"CornerMapsModel", "pairs", "(I)I"⟩, prog_12_method_149_code, 5, some .int)
theorem co_MD_pairs : CalOK M_MD_pairs 1 := ⟨g_at 2225 (by decide +kernel) rfl, g_at 13 (by decide +kernel) rfl, by decide +kernel, by decide +kernel, by decide +kernel⟩
theorem pn_MD_pairs : plainName M_MD_pairs.1.cls = true := by decide +kernel
def M_MD_isPair : pM := (⟨"CornerMapsModel", "isPair", "(III)Z"⟩, prog_12_method_150_code, 4, some .boolean)
theorem co_MD_isPair : CalOK M_MD_isPair 3 := ⟨g_at 2229 (by decide +kernel) rfl, g_at 13 (by decide +kernel) rfl, by decide +kernel, by decide +kernel, by decide +kernel⟩
theorem pn_MD_isPair : plainName M_MD_isPair.1.cls = true := by decide +kernel
def M_MD_cornerBy : pM := (⟨"CornerMapsModel", "cornerBy", "(IIII)J"⟩, prog_12_method_152_code, 5, some .long)
theorem co_MD_cornerBy : CalOK M_MD_cornerBy 4 := ⟨g_at 2235 (by decide +kernel) rfl, g_at 13 (by decide +kernel) rfl, by decide +kernel, by decide +kernel, by decide +kernel⟩
theorem pn_MD_cornerBy : plainName M_MD_cornerBy.1.cls = true := by decide +kernel
def M_MD_laysCorner : pM := (⟨"CornerMapsModel", "laysCorner", "(III)V"⟩, prog_12_method_151_code, 4, none)
theorem co_MD_laysCorner : CalOK M_MD_laysCorner 3 := ⟨g_at 2239 (by decide +kernel) rfl, g_at 13 (by decide +kernel) rfl, by decide +kernel, by decide +kernel, by decide +kernel⟩
theorem pn_MD_laysCorner : plainName M_MD_laysCorner.1.cls = true := by decide +kernel
def M_MD_hits : pM := (⟨"CornerMapsModel", "hits", "(III)I"⟩, prog_12_method_154_code, 4, some .int)
theorem co_MD_hits : CalOK M_MD_hits 3 := ⟨g_at 2243 (by decide +kernel) rfl, g_at 13 (by decide +kernel) rfl, by decide +kernel, by decide +kernel, by decide +kernel⟩
theorem pn_MD_hits : plainName M_MD_hits.1.cls = true := by decide +kernel
def M_MD_hitsOf : pM := (⟨"CornerMapsModel", "hitsOf", "(III)I"⟩, prog_12_method_153_code, 8, some .int)
theorem co_MD_hitsOf : CalOK M_MD_hitsOf 3 := ⟨g_at 2247 (by decide +kernel) rfl, g_at 13 (by decide +kernel) rfl, by decide +kernel, by decide +kernel, by decide +kernel⟩
theorem pn_MD_hitsOf : plainName M_MD_hitsOf.1.cls = true := by decide +kernel
def M_MD_goesTo : pM := (⟨"CornerMapsModel", "goesTo", "(II)I"⟩, prog_12_method_155_code, 5, some .int)
theorem co_MD_goesTo : CalOK M_MD_goesTo 2 := ⟨g_at 2251 (by decide +kernel) rfl, g_at 13 (by decide +kernel) rfl, by decide +kernel, by decide +kernel, by decide +kernel⟩
theorem pn_MD_goesTo : plainName M_MD_goesTo.1.cls = true := by decide +kernel
def M_MD_farthest : pM := (⟨"CornerMapsModel", "farthest", "(I)J"⟩, prog_12_method_156_code, 6, some .long)
theorem co_MD_farthest : CalOK M_MD_farthest 1 := ⟨g_at 2255 (by decide +kernel) rfl, g_at 13 (by decide +kernel) rfl, by decide +kernel, by decide +kernel, by decide +kernel⟩
theorem pn_MD_farthest : plainName M_MD_farthest.1.cls = true := by decide +kernel
def M_MD_find : pM := (⟨"CornerMapsModel", "find", "(II)I"⟩, prog_12_method_157_code, 4, some .int)
theorem co_MD_find : CalOK M_MD_find 2 := ⟨g_at 2259 (by decide +kernel) rfl, g_at 13 (by decide +kernel) rfl, by decide +kernel, by decide +kernel, by decide +kernel⟩
theorem pn_MD_find : plainName M_MD_find.1.cls = true := by decide +kernel
theorem sm_MD_least : Cond.static M_MD_least.1 ∈ gtbl := g_at 2191 (by decide +kernel) rfl
theorem im_MD_laysDiagonal : Cond.instanceMethod M_MD_laysDiagonal.1 ∈ gtbl := g_at 2093 (by decide +kernel) rfl
theorem se_MD_laysDiagonal : Cond.selects M_MD_laysDiagonal.1.cls M_MD_laysDiagonal.1 M_MD_laysDiagonal.1 ∈ gtbl := g_sel 99 (by decide +kernel) rfl
theorem im_MD_joins : Cond.instanceMethod M_MD_joins.1 ∈ gtbl := g_at 2097 (by decide +kernel) rfl
theorem se_MD_joins : Cond.selects M_MD_joins.1.cls M_MD_joins.1 M_MD_joins.1 ∈ gtbl := g_sel 100 (by decide +kernel) rfl
theorem im_MD_turnBy : Cond.instanceMethod M_MD_turnBy.1 ∈ gtbl := g_at 2109 (by decide +kernel) rfl
theorem se_MD_turnBy : Cond.selects M_MD_turnBy.1.cls M_MD_turnBy.1 M_MD_turnBy.1 ∈ gtbl := g_sel 101 (by decide +kernel) rfl
theorem im_MD_doCrossBy : Cond.instanceMethod M_MD_doCrossBy.1 ∈ gtbl := g_at 2113 (by decide +kernel) rfl
theorem se_MD_doCrossBy : Cond.selects M_MD_doCrossBy.1.cls M_MD_doCrossBy.1 M_MD_doCrossBy.1 ∈ gtbl := g_sel 102 (by decide +kernel) rfl
theorem im_MD_laysOrder : Cond.instanceMethod M_MD_laysOrder.1 ∈ gtbl := g_at 2121 (by decide +kernel) rfl
theorem se_MD_laysOrder : Cond.selects M_MD_laysOrder.1.cls M_MD_laysOrder.1 M_MD_laysOrder.1 ∈ gtbl := g_sel 103 (by decide +kernel) rfl
theorem im_MD_seeksRow : Cond.instanceMethod M_MD_seeksRow.1 ∈ gtbl := g_at 2133 (by decide +kernel) rfl
theorem se_MD_seeksRow : Cond.selects M_MD_seeksRow.1.cls M_MD_seeksRow.1 M_MD_seeksRow.1 ∈ gtbl := g_sel 104 (by decide +kernel) rfl
theorem im_MD_found : Cond.instanceMethod M_MD_found.1 ∈ gtbl := g_at 2137 (by decide +kernel) rfl
theorem se_MD_found : Cond.selects M_MD_found.1.cls M_MD_found.1 M_MD_found.1 ∈ gtbl := g_sel 105 (by decide +kernel) rfl
theorem im_MD_seeksThird : Cond.instanceMethod M_MD_seeksThird.1 ∈ gtbl := g_at 2141 (by decide +kernel) rfl
theorem se_MD_seeksThird : Cond.selects M_MD_seeksThird.1.cls M_MD_seeksThird.1 M_MD_seeksThird.1 ∈ gtbl := g_sel 106 (by decide +kernel) rfl
theorem im_MD_counts : Cond.instanceMethod M_MD_counts.1 ∈ gtbl := g_at 2149 (by decide +kernel) rfl
theorem se_MD_counts : Cond.selects M_MD_counts.1.cls M_MD_counts.1 M_MD_counts.1 ∈ gtbl := g_sel 107 (by decide +kernel) rfl
theorem im_MD_spells : Cond.instanceMethod M_MD_spells.1 ∈ gtbl := g_at 2157 (by decide +kernel) rfl
theorem se_MD_spells : Cond.selects M_MD_spells.1.cls M_MD_spells.1 M_MD_spells.1 ∈ gtbl := g_sel 108 (by decide +kernel) rfl
theorem im_MD_laysPull : Cond.instanceMethod M_MD_laysPull.1 ∈ gtbl := g_at 2167 (by decide +kernel) rfl
theorem se_MD_laysPull : Cond.selects M_MD_laysPull.1.cls M_MD_laysPull.1 M_MD_laysPull.1 ∈ gtbl := g_sel 109 (by decide +kernel) rfl
theorem im_MD_isFinite : Cond.instanceMethod M_MD_isFinite.1 ∈ gtbl := g_at 2183 (by decide +kernel) rfl
theorem se_MD_isFinite : Cond.selects M_MD_isFinite.1.cls M_MD_isFinite.1 M_MD_isFinite.1 ∈ gtbl := g_sel 110 (by decide +kernel) rfl
theorem im_MD_sizeOf : Cond.instanceMethod M_MD_sizeOf.1 ∈ gtbl := g_at 2216 (by decide +kernel) rfl
theorem se_MD_sizeOf : Cond.selects M_MD_sizeOf.1.cls M_MD_sizeOf.1 M_MD_sizeOf.1 ∈ gtbl := g_sel 111 (by decide +kernel) rfl
theorem im_MD_isPair : Cond.instanceMethod M_MD_isPair.1 ∈ gtbl := g_at 2228 (by decide +kernel) rfl
theorem se_MD_isPair : Cond.selects M_MD_isPair.1.cls M_MD_isPair.1 M_MD_isPair.1 ∈ gtbl := g_sel 112 (by decide +kernel) rfl
theorem im_MD_commute : Cond.instanceMethod M_MD_commute.1 ∈ gtbl := g_at 1960 (by decide +kernel) rfl
theorem se_MD_commute : Cond.selects M_MD_commute.1.cls M_MD_commute.1 M_MD_commute.1 ∈ gtbl := g_at 1961 (by decide +kernel) rfl
theorem im_MD_same : Cond.instanceMethod M_MD_same.1 ∈ gtbl := g_at 1952 (by decide +kernel) rfl
theorem se_MD_same : Cond.selects M_MD_same.1.cls M_MD_same.1 M_MD_same.1 ∈ gtbl := g_at 1953 (by decide +kernel) rfl
theorem im_MD_laysCorner : Cond.instanceMethod M_MD_laysCorner.1 ∈ gtbl := g_at 2238 (by decide +kernel) rfl
theorem se_MD_laysCorner : Cond.selects M_MD_laysCorner.1.cls M_MD_laysCorner.1 M_MD_laysCorner.1 ∈ gtbl := g_sel 113 (by decide +kernel) rfl
theorem im_MD_hitsOf : Cond.instanceMethod M_MD_hitsOf.1 ∈ gtbl := g_at 2246 (by decide +kernel) rfl
theorem se_MD_hitsOf : Cond.selects M_MD_hitsOf.1.cls M_MD_hitsOf.1 M_MD_hitsOf.1 ∈ gtbl := g_sel 114 (by decide +kernel) rfl
theorem L_MD_404 : Cond.methodLink "CornerMapsModel" 404 ⟨"CornerMapsModel", "laysDiagonal", "(II)V"⟩ ∈ gtbl := g_at 2091 (by decide +kernel) rfl
theorem L_MD_400 : Cond.methodLink "CornerMapsModel" 400 ⟨"CornerMapsModel", "joins", "([JIII)V"⟩ ∈ gtbl := g_at 2095 (by decide +kernel) rfl
theorem L_MD_407 : Cond.methodLink "CornerMapsModel" 407 ⟨"CornerMapsModel", "turnBy", "(IIIII)I"⟩ ∈ gtbl := g_at 2107 (by decide +kernel) rfl
theorem L_MD_411 : Cond.methodLink "CornerMapsModel" 411 ⟨"CornerMapsModel", "doCrossBy", "(IIIIII)Z"⟩ ∈ gtbl := g_at 2111 (by decide +kernel) rfl
theorem L_MD_415 : Cond.methodLink "CornerMapsModel" 415 ⟨"CornerMapsModel", "laysOrder", "(III)V"⟩ ∈ gtbl := g_at 2119 (by decide +kernel) rfl
theorem L_MD_429 : Cond.methodLink "CornerMapsModel" 429 ⟨"CornerMapsModel", "seeksRow", "(I)V"⟩ ∈ gtbl := g_at 2131 (by decide +kernel) rfl
theorem L_MD_419 : Cond.fieldLink "CornerMapsModel" 419 "CornerMapsModel" "rowMany" "I" ∈ gtbl := g_at 1530 (by decide +kernel) rfl
theorem L_MD_422 : Cond.methodLink "CornerMapsModel" 422 ⟨"CornerMapsModel", "found", "(IIII)V"⟩ ∈ gtbl := g_at 2135 (by decide +kernel) rfl
theorem L_MD_426 : Cond.methodLink "CornerMapsModel" 426 ⟨"CornerMapsModel", "seeksThird", "(III)V"⟩ ∈ gtbl := g_at 2139 (by decide +kernel) rfl
theorem L_MD_432 : Cond.fieldLink "CornerMapsModel" 432 "CornerMapsModel" "unlikeMany" "I" ∈ gtbl := g_at 1532 (by decide +kernel) rfl
theorem L_MD_435 : Cond.methodLink "CornerMapsModel" 435 ⟨"CornerMapsModel", "counts", "()V"⟩ ∈ gtbl := g_at 2147 (by decide +kernel) rfl
theorem L_MD_438 : Cond.fieldLink "CornerMapsModel" 438 "CornerMapsModel" "speltMany" "I" ∈ gtbl := g_at 1534 (by decide +kernel) rfl
theorem L_MD_445 : Cond.methodLink "CornerMapsModel" 445 ⟨"CornerMapsModel", "spells", "(J)V"⟩ ∈ gtbl := g_at 2155 (by decide +kernel) rfl
theorem L_MD_441 : Cond.constantLong "CornerMapsModel" 441 (9 : Int64) ∈ gtbl := g_at 2159 (by decide +kernel) rfl
theorem L_MD_443 : Cond.constantLong "CornerMapsModel" 443 (10 : Int64) ∈ gtbl := g_at 2160 (by decide +kernel) rfl
theorem L_MD_449 : Cond.methodLink "CornerMapsModel" 449 ⟨"CornerMapsModel", "laysPull", "(IJJJ)V"⟩ ∈ gtbl := g_at 2165 (by decide +kernel) rfl
theorem L_MD_453 : Cond.methodLink "CornerMapsModel" 453 ⟨"CornerMapsModel", "isFinite", "(I)Z"⟩ ∈ gtbl := g_at 2181 (by decide +kernel) rfl
theorem L_MD_456 : Cond.constantLong "CornerMapsModel" 456 (-2 : Int64) ∈ gtbl := g_at 2189 (by decide +kernel) rfl
theorem L_MD_458 : Cond.methodLink "CornerMapsModel" 458 ⟨"CornerMapsModel", "least", "(JJI)J"⟩ ∈ gtbl := g_at 2190 (by decide +kernel) rfl
theorem L_MD_462 : Cond.constantLong "CornerMapsModel" 462 (2 : Int64) ∈ gtbl := g_at 2197 (by decide +kernel) rfl
theorem L_MD_464 : Cond.methodLink "CornerMapsModel" 464 ⟨"CornerMapsModel", "sizeOf", "(I)I"⟩ ∈ gtbl := g_at 2214 (by decide +kernel) rfl
theorem L_MD_467 : Cond.methodLink "CornerMapsModel" 467 ⟨"CornerMapsModel", "isPair", "(III)Z"⟩ ∈ gtbl := g_at 2226 (by decide +kernel) rfl
theorem L_MD_470 : Cond.methodLink "CornerMapsModel" 470 ⟨"CornerMapsModel", "commute", "(II)I"⟩ ∈ gtbl := g_at 2230 (by decide +kernel) rfl
theorem L_MD_474 : Cond.methodLink "CornerMapsModel" 474 ⟨"CornerMapsModel", "same", "(II)I"⟩ ∈ gtbl := g_at 2231 (by decide +kernel) rfl
theorem L_MD_477 : Cond.methodLink "CornerMapsModel" 477 ⟨"CornerMapsModel", "laysCorner", "(III)V"⟩ ∈ gtbl := g_at 2236 (by decide +kernel) rfl
theorem L_MD_480 : Cond.methodLink "CornerMapsModel" 480 ⟨"CornerMapsModel", "hitsOf", "(III)I"⟩ ∈ gtbl := g_at 2244 (by decide +kernel) rfl
theorem F_MD_isOnSideCorner_0 : Jvm.Free.DS.Facts prog_12_method_113_code 0 [(.aload_n 0, 1), (.iload_n 1, 1), (.iload_n 2, 1), (.aload_n 0, 1), (.getfield 15, 3), (.bipush (8), 2), (.iload_n 3, 1), (.imul, 1), (.iconst 2, 1), (.iload 4, 2), (.imul, 1), (.iadd, 1), (.iaload, 1), (.i2l, 1), (.aload_n 0, 1), (.getfield 15, 3), (.bipush (8), 2), (.iload_n 3, 1), (.imul, 1), (.iconst 2, 1), (.iload 4, 2), (.imul, 1), (.iadd, 1), (.iconst 1, 1), (.iadd, 1), (.iaload, 1), (.i2l, 1), (.lconst 1, 1), (.invokevirtual 385, 3), (.ireturn, 1)] := Jvm.Free.DS.facts 0 _ (by decide +kernel) (by decide +kernel)
theorem d_MD_isOnSideCorner_0 : decode prog_12_method_113_code 0 = .ok (.aload_n 0, 1) := F_MD_isOnSideCorner_0.1
theorem d_MD_isOnSideCorner_1 : decode prog_12_method_113_code 1 = .ok (.iload_n 1, 1) := F_MD_isOnSideCorner_0.2.1
theorem d_MD_isOnSideCorner_2 : decode prog_12_method_113_code 2 = .ok (.iload_n 2, 1) := F_MD_isOnSideCorner_0.2.2.1
theorem d_MD_isOnSideCorner_3 : decode prog_12_method_113_code 3 = .ok (.aload_n 0, 1) := F_MD_isOnSideCorner_0.2.2.2.1
theorem d_MD_isOnSideCorner_4 : decode prog_12_method_113_code 4 = .ok (.getfield 15, 3) := F_MD_isOnSideCorner_0.2.2.2.2.1
theorem d_MD_isOnSideCorner_7 : decode prog_12_method_113_code 7 = .ok (.bipush (8), 2) := F_MD_isOnSideCorner_0.2.2.2.2.2.1
theorem d_MD_isOnSideCorner_9 : decode prog_12_method_113_code 9 = .ok (.iload_n 3, 1) := F_MD_isOnSideCorner_0.2.2.2.2.2.2.1
theorem d_MD_isOnSideCorner_10 : decode prog_12_method_113_code 10 = .ok (.imul, 1) := F_MD_isOnSideCorner_0.2.2.2.2.2.2.2.1
theorem d_MD_isOnSideCorner_11 : decode prog_12_method_113_code 11 = .ok (.iconst 2, 1) := F_MD_isOnSideCorner_0.2.2.2.2.2.2.2.2.1
theorem d_MD_isOnSideCorner_12 : decode prog_12_method_113_code 12 = .ok (.iload 4, 2) := F_MD_isOnSideCorner_0.2.2.2.2.2.2.2.2.2.1
theorem d_MD_isOnSideCorner_14 : decode prog_12_method_113_code 14 = .ok (.imul, 1) := F_MD_isOnSideCorner_0.2.2.2.2.2.2.2.2.2.2.1
theorem d_MD_isOnSideCorner_15 : decode prog_12_method_113_code 15 = .ok (.iadd, 1) := F_MD_isOnSideCorner_0.2.2.2.2.2.2.2.2.2.2.2.1
theorem d_MD_isOnSideCorner_16 : decode prog_12_method_113_code 16 = .ok (.iaload, 1) := F_MD_isOnSideCorner_0.2.2.2.2.2.2.2.2.2.2.2.2.1
theorem d_MD_isOnSideCorner_17 : decode prog_12_method_113_code 17 = .ok (.i2l, 1) := F_MD_isOnSideCorner_0.2.2.2.2.2.2.2.2.2.2.2.2.2.1
theorem d_MD_isOnSideCorner_18 : decode prog_12_method_113_code 18 = .ok (.aload_n 0, 1) := F_MD_isOnSideCorner_0.2.2.2.2.2.2.2.2.2.2.2.2.2.2.1
theorem d_MD_isOnSideCorner_19 : decode prog_12_method_113_code 19 = .ok (.getfield 15, 3) := F_MD_isOnSideCorner_0.2.2.2.2.2.2.2.2.2.2.2.2.2.2.2.1
theorem d_MD_isOnSideCorner_22 : decode prog_12_method_113_code 22 = .ok (.bipush (8), 2) := F_MD_isOnSideCorner_0.2.2.2.2.2.2.2.2.2.2.2.2.2.2.2.2.1
theorem d_MD_isOnSideCorner_24 : decode prog_12_method_113_code 24 = .ok (.iload_n 3, 1) := F_MD_isOnSideCorner_0.2.2.2.2.2.2.2.2.2.2.2.2.2.2.2.2.2.1
theorem d_MD_isOnSideCorner_25 : decode prog_12_method_113_code 25 = .ok (.imul, 1) := F_MD_isOnSideCorner_0.2.2.2.2.2.2.2.2.2.2.2.2.2.2.2.2.2.2.1
theorem d_MD_isOnSideCorner_26 : decode prog_12_method_113_code 26 = .ok (.iconst 2, 1) := F_MD_isOnSideCorner_0.2.2.2.2.2.2.2.2.2.2.2.2.2.2.2.2.2.2.2.1
theorem d_MD_isOnSideCorner_27 : decode prog_12_method_113_code 27 = .ok (.iload 4, 2) := F_MD_isOnSideCorner_0.2.2.2.2.2.2.2.2.2.2.2.2.2.2.2.2.2.2.2.2.1
theorem d_MD_isOnSideCorner_29 : decode prog_12_method_113_code 29 = .ok (.imul, 1) := F_MD_isOnSideCorner_0.2.2.2.2.2.2.2.2.2.2.2.2.2.2.2.2.2.2.2.2.2.1
theorem d_MD_isOnSideCorner_30 : decode prog_12_method_113_code 30 = .ok (.iadd, 1) := F_MD_isOnSideCorner_0.2.2.2.2.2.2.2.2.2.2.2.2.2.2.2.2.2.2.2.2.2.2.1
theorem d_MD_isOnSideCorner_31 : decode prog_12_method_113_code 31 = .ok (.iconst 1, 1) := F_MD_isOnSideCorner_0.2.2.2.2.2.2.2.2.2.2.2.2.2.2.2.2.2.2.2.2.2.2.2.1
theorem d_MD_isOnSideCorner_32 : decode prog_12_method_113_code 32 = .ok (.iadd, 1) := F_MD_isOnSideCorner_0.2.2.2.2.2.2.2.2.2.2.2.2.2.2.2.2.2.2.2.2.2.2.2.2.1
theorem d_MD_isOnSideCorner_33 : decode prog_12_method_113_code 33 = .ok (.iaload, 1) := F_MD_isOnSideCorner_0.2.2.2.2.2.2.2.2.2.2.2.2.2.2.2.2.2.2.2.2.2.2.2.2.2.1
theorem d_MD_isOnSideCorner_34 : decode prog_12_method_113_code 34 = .ok (.i2l, 1) := F_MD_isOnSideCorner_0.2.2.2.2.2.2.2.2.2.2.2.2.2.2.2.2.2.2.2.2.2.2.2.2.2.2.1
theorem d_MD_isOnSideCorner_35 : decode prog_12_method_113_code 35 = .ok (.lconst 1, 1) := F_MD_isOnSideCorner_0.2.2.2.2.2.2.2.2.2.2.2.2.2.2.2.2.2.2.2.2.2.2.2.2.2.2.2.1
theorem d_MD_isOnSideCorner_36 : decode prog_12_method_113_code 36 = .ok (.invokevirtual 385, 3) := F_MD_isOnSideCorner_0.2.2.2.2.2.2.2.2.2.2.2.2.2.2.2.2.2.2.2.2.2.2.2.2.2.2.2.2.1
theorem d_MD_isOnSideCorner_39 : decode prog_12_method_113_code 39 = .ok (.ireturn, 1) := F_MD_isOnSideCorner_0.2.2.2.2.2.2.2.2.2.2.2.2.2.2.2.2.2.2.2.2.2.2.2.2.2.2.2.2.2.1
theorem F_MD_sideOfSideCorner_0 : Jvm.Free.DS.Facts prog_12_method_114_code 0 [(.aload_n 0, 1), (.iload_n 1, 1), (.iload_n 2, 1), (.aload_n 0, 1), (.getfield 15, 3), (.bipush (8), 2), (.iload_n 3, 1), (.imul, 1), (.iconst 2, 1), (.iload 4, 2), (.imul, 1), (.iadd, 1), (.iaload, 1), (.i2l, 1), (.aload_n 0, 1), (.getfield 15, 3), (.bipush (8), 2), (.iload_n 3, 1), (.imul, 1), (.iconst 2, 1), (.iload 4, 2), (.imul, 1), (.iadd, 1), (.iconst 1, 1), (.iadd, 1), (.iaload, 1), (.i2l, 1), (.lconst 1, 1), (.invokevirtual 377, 3), (.ireturn, 1)] := Jvm.Free.DS.facts 0 _ (by decide +kernel) (by decide +kernel)
theorem d_MD_sideOfSideCorner_0 : decode prog_12_method_114_code 0 = .ok (.aload_n 0, 1) := F_MD_sideOfSideCorner_0.1
theorem d_MD_sideOfSideCorner_1 : decode prog_12_method_114_code 1 = .ok (.iload_n 1, 1) := F_MD_sideOfSideCorner_0.2.1
theorem d_MD_sideOfSideCorner_2 : decode prog_12_method_114_code 2 = .ok (.iload_n 2, 1) := F_MD_sideOfSideCorner_0.2.2.1
theorem d_MD_sideOfSideCorner_3 : decode prog_12_method_114_code 3 = .ok (.aload_n 0, 1) := F_MD_sideOfSideCorner_0.2.2.2.1
theorem d_MD_sideOfSideCorner_4 : decode prog_12_method_114_code 4 = .ok (.getfield 15, 3) := F_MD_sideOfSideCorner_0.2.2.2.2.1
theorem d_MD_sideOfSideCorner_7 : decode prog_12_method_114_code 7 = .ok (.bipush (8), 2) := F_MD_sideOfSideCorner_0.2.2.2.2.2.1
theorem d_MD_sideOfSideCorner_9 : decode prog_12_method_114_code 9 = .ok (.iload_n 3, 1) := F_MD_sideOfSideCorner_0.2.2.2.2.2.2.1
theorem d_MD_sideOfSideCorner_10 : decode prog_12_method_114_code 10 = .ok (.imul, 1) := F_MD_sideOfSideCorner_0.2.2.2.2.2.2.2.1
theorem d_MD_sideOfSideCorner_11 : decode prog_12_method_114_code 11 = .ok (.iconst 2, 1) := F_MD_sideOfSideCorner_0.2.2.2.2.2.2.2.2.1
theorem d_MD_sideOfSideCorner_12 : decode prog_12_method_114_code 12 = .ok (.iload 4, 2) := F_MD_sideOfSideCorner_0.2.2.2.2.2.2.2.2.2.1
theorem d_MD_sideOfSideCorner_14 : decode prog_12_method_114_code 14 = .ok (.imul, 1) := F_MD_sideOfSideCorner_0.2.2.2.2.2.2.2.2.2.2.1
theorem d_MD_sideOfSideCorner_15 : decode prog_12_method_114_code 15 = .ok (.iadd, 1) := F_MD_sideOfSideCorner_0.2.2.2.2.2.2.2.2.2.2.2.1
theorem d_MD_sideOfSideCorner_16 : decode prog_12_method_114_code 16 = .ok (.iaload, 1) := F_MD_sideOfSideCorner_0.2.2.2.2.2.2.2.2.2.2.2.2.1
theorem d_MD_sideOfSideCorner_17 : decode prog_12_method_114_code 17 = .ok (.i2l, 1) := F_MD_sideOfSideCorner_0.2.2.2.2.2.2.2.2.2.2.2.2.2.1
theorem d_MD_sideOfSideCorner_18 : decode prog_12_method_114_code 18 = .ok (.aload_n 0, 1) := F_MD_sideOfSideCorner_0.2.2.2.2.2.2.2.2.2.2.2.2.2.2.1
theorem d_MD_sideOfSideCorner_19 : decode prog_12_method_114_code 19 = .ok (.getfield 15, 3) := F_MD_sideOfSideCorner_0.2.2.2.2.2.2.2.2.2.2.2.2.2.2.2.1
theorem d_MD_sideOfSideCorner_22 : decode prog_12_method_114_code 22 = .ok (.bipush (8), 2) := F_MD_sideOfSideCorner_0.2.2.2.2.2.2.2.2.2.2.2.2.2.2.2.2.1
theorem d_MD_sideOfSideCorner_24 : decode prog_12_method_114_code 24 = .ok (.iload_n 3, 1) := F_MD_sideOfSideCorner_0.2.2.2.2.2.2.2.2.2.2.2.2.2.2.2.2.2.1
theorem d_MD_sideOfSideCorner_25 : decode prog_12_method_114_code 25 = .ok (.imul, 1) := F_MD_sideOfSideCorner_0.2.2.2.2.2.2.2.2.2.2.2.2.2.2.2.2.2.2.1
theorem d_MD_sideOfSideCorner_26 : decode prog_12_method_114_code 26 = .ok (.iconst 2, 1) := F_MD_sideOfSideCorner_0.2.2.2.2.2.2.2.2.2.2.2.2.2.2.2.2.2.2.2.1
theorem d_MD_sideOfSideCorner_27 : decode prog_12_method_114_code 27 = .ok (.iload 4, 2) := F_MD_sideOfSideCorner_0.2.2.2.2.2.2.2.2.2.2.2.2.2.2.2.2.2.2.2.2.1
theorem d_MD_sideOfSideCorner_29 : decode prog_12_method_114_code 29 = .ok (.imul, 1) := F_MD_sideOfSideCorner_0.2.2.2.2.2.2.2.2.2.2.2.2.2.2.2.2.2.2.2.2.2.1
theorem d_MD_sideOfSideCorner_30 : decode prog_12_method_114_code 30 = .ok (.iadd, 1) := F_MD_sideOfSideCorner_0.2.2.2.2.2.2.2.2.2.2.2.2.2.2.2.2.2.2.2.2.2.2.1
theorem d_MD_sideOfSideCorner_31 : decode prog_12_method_114_code 31 = .ok (.iconst 1, 1) := F_MD_sideOfSideCorner_0.2.2.2.2.2.2.2.2.2.2.2.2.2.2.2.2.2.2.2.2.2.2.2.1
theorem d_MD_sideOfSideCorner_32 : decode prog_12_method_114_code 32 = .ok (.iadd, 1) := F_MD_sideOfSideCorner_0.2.2.2.2.2.2.2.2.2.2.2.2.2.2.2.2.2.2.2.2.2.2.2.2.1
theorem d_MD_sideOfSideCorner_33 : decode prog_12_method_114_code 33 = .ok (.iaload, 1) := F_MD_sideOfSideCorner_0.2.2.2.2.2.2.2.2.2.2.2.2.2.2.2.2.2.2.2.2.2.2.2.2.2.1
theorem d_MD_sideOfSideCorner_34 : decode prog_12_method_114_code 34 = .ok (.i2l, 1) := F_MD_sideOfSideCorner_0.2.2.2.2.2.2.2.2.2.2.2.2.2.2.2.2.2.2.2.2.2.2.2.2.2.2.1
theorem d_MD_sideOfSideCorner_35 : decode prog_12_method_114_code 35 = .ok (.lconst 1, 1) := F_MD_sideOfSideCorner_0.2.2.2.2.2.2.2.2.2.2.2.2.2.2.2.2.2.2.2.2.2.2.2.2.2.2.2.1
theorem d_MD_sideOfSideCorner_36 : decode prog_12_method_114_code 36 = .ok (.invokevirtual 377, 3) := F_MD_sideOfSideCorner_0.2.2.2.2.2.2.2.2.2.2.2.2.2.2.2.2.2.2.2.2.2.2.2.2.2.2.2.2.1
theorem d_MD_sideOfSideCorner_39 : decode prog_12_method_114_code 39 = .ok (.ireturn, 1) := F_MD_sideOfSideCorner_0.2.2.2.2.2.2.2.2.2.2.2.2.2.2.2.2.2.2.2.2.2.2.2.2.2.2.2.2.2.1
theorem F_MD_diagonal_0 : Jvm.Free.DS.Facts prog_12_method_119_code 0 [(.aload_n 0, 1), (.iconst 0, 1), (.putfield 74, 3), (.aload_n 0, 1), (.iload_n 1, 1), (.invokevirtual 238, 3), (.ifCond .eq (17), 3), (.iload_n 2, 1), (.invokestatic 244, 3), (.ifCond .eq (10), 3), (.iload_n 3, 1), (.invokestatic 244, 3), (.ifCond .ne (7), 3), (.ldc2_w 307, 3), (.lreturn, 1), (.aload_n 0, 1), (.iload_n 1, 1), (.iload_n 2, 1), (.invokevirtual 404, 3), (.aload_n 0, 1), (.getfield 50, 3), (.iload_n 3, 1), (.laload, 1), (.lreturn, 1)] := Jvm.Free.DS.facts 0 _ (by decide +kernel) (by decide +kernel)
theorem d_MD_diagonal_0 : decode prog_12_method_119_code 0 = .ok (.aload_n 0, 1) := F_MD_diagonal_0.1
theorem d_MD_diagonal_1 : decode prog_12_method_119_code 1 = .ok (.iconst 0, 1) := F_MD_diagonal_0.2.1
theorem d_MD_diagonal_2 : decode prog_12_method_119_code 2 = .ok (.putfield 74, 3) := F_MD_diagonal_0.2.2.1
theorem d_MD_diagonal_5 : decode prog_12_method_119_code 5 = .ok (.aload_n 0, 1) := F_MD_diagonal_0.2.2.2.1
theorem d_MD_diagonal_6 : decode prog_12_method_119_code 6 = .ok (.iload_n 1, 1) := F_MD_diagonal_0.2.2.2.2.1
theorem d_MD_diagonal_7 : decode prog_12_method_119_code 7 = .ok (.invokevirtual 238, 3) := F_MD_diagonal_0.2.2.2.2.2.1
theorem d_MD_diagonal_10 : decode prog_12_method_119_code 10 = .ok (.ifCond .eq (17), 3) := F_MD_diagonal_0.2.2.2.2.2.2.1
theorem d_MD_diagonal_13 : decode prog_12_method_119_code 13 = .ok (.iload_n 2, 1) := F_MD_diagonal_0.2.2.2.2.2.2.2.1
theorem d_MD_diagonal_14 : decode prog_12_method_119_code 14 = .ok (.invokestatic 244, 3) := F_MD_diagonal_0.2.2.2.2.2.2.2.2.1
theorem d_MD_diagonal_17 : decode prog_12_method_119_code 17 = .ok (.ifCond .eq (10), 3) := F_MD_diagonal_0.2.2.2.2.2.2.2.2.2.1
theorem d_MD_diagonal_20 : decode prog_12_method_119_code 20 = .ok (.iload_n 3, 1) := F_MD_diagonal_0.2.2.2.2.2.2.2.2.2.2.1
theorem d_MD_diagonal_21 : decode prog_12_method_119_code 21 = .ok (.invokestatic 244, 3) := F_MD_diagonal_0.2.2.2.2.2.2.2.2.2.2.2.1
theorem d_MD_diagonal_24 : decode prog_12_method_119_code 24 = .ok (.ifCond .ne (7), 3) := F_MD_diagonal_0.2.2.2.2.2.2.2.2.2.2.2.2.1
theorem d_MD_diagonal_27 : decode prog_12_method_119_code 27 = .ok (.ldc2_w 307, 3) := F_MD_diagonal_0.2.2.2.2.2.2.2.2.2.2.2.2.2.1
theorem d_MD_diagonal_30 : decode prog_12_method_119_code 30 = .ok (.lreturn, 1) := F_MD_diagonal_0.2.2.2.2.2.2.2.2.2.2.2.2.2.2.1
theorem d_MD_diagonal_31 : decode prog_12_method_119_code 31 = .ok (.aload_n 0, 1) := F_MD_diagonal_0.2.2.2.2.2.2.2.2.2.2.2.2.2.2.2.1
theorem d_MD_diagonal_32 : decode prog_12_method_119_code 32 = .ok (.iload_n 1, 1) := F_MD_diagonal_0.2.2.2.2.2.2.2.2.2.2.2.2.2.2.2.2.1
theorem d_MD_diagonal_33 : decode prog_12_method_119_code 33 = .ok (.iload_n 2, 1) := F_MD_diagonal_0.2.2.2.2.2.2.2.2.2.2.2.2.2.2.2.2.2.1
theorem d_MD_diagonal_34 : decode prog_12_method_119_code 34 = .ok (.invokevirtual 404, 3) := F_MD_diagonal_0.2.2.2.2.2.2.2.2.2.2.2.2.2.2.2.2.2.2.1
theorem d_MD_diagonal_37 : decode prog_12_method_119_code 37 = .ok (.aload_n 0, 1) := F_MD_diagonal_0.2.2.2.2.2.2.2.2.2.2.2.2.2.2.2.2.2.2.2.1
theorem d_MD_diagonal_38 : decode prog_12_method_119_code 38 = .ok (.getfield 50, 3) := F_MD_diagonal_0.2.2.2.2.2.2.2.2.2.2.2.2.2.2.2.2.2.2.2.2.1
theorem d_MD_diagonal_41 : decode prog_12_method_119_code 41 = .ok (.iload_n 3, 1) := F_MD_diagonal_0.2.2.2.2.2.2.2.2.2.2.2.2.2.2.2.2.2.2.2.2.2.1
theorem d_MD_diagonal_42 : decode prog_12_method_119_code 42 = .ok (.laload, 1) := F_MD_diagonal_0.2.2.2.2.2.2.2.2.2.2.2.2.2.2.2.2.2.2.2.2.2.2.1
theorem d_MD_diagonal_43 : decode prog_12_method_119_code 43 = .ok (.lreturn, 1) := F_MD_diagonal_0.2.2.2.2.2.2.2.2.2.2.2.2.2.2.2.2.2.2.2.2.2.2.2.1
theorem F_MD_laysDiagonal_0 : Jvm.Free.DS.Facts prog_12_method_118_code 0 [(.aload_n 0, 1), (.aload_n 0, 1), (.getfield 50, 3), (.iload_n 1, 1), (.iload_n 2, 1), (.iconst 1, 1), (.if_icmp .ne (7), 3), (.iconst 1, 1), (.goto (4), 3), (.iconst 0, 1), (.iload_n 2, 1), (.ifCond .ne (7), 3), (.iconst 1, 1), (.goto (4), 3), (.iconst 2, 1), (.invokevirtual 400, 3), (.aload_n 0, 1), (.aload_n 0, 1), (.getfield 53, 3), (.iload_n 1, 1), (.iload_n 2, 1), (.ifCond .ne (7), 3), (.iconst 2, 1), (.goto (13), 3), (.iload_n 2, 1), (.iconst 1, 1), (.if_icmp .ne (7), 3), (.iconst 3, 1), (.goto (4), 3), (.iconst 1, 1), (.iload_n 2, 1), (.iconst 1, 1)] := Jvm.Free.DS.facts 0 _ (by decide +kernel) (by decide +kernel)
theorem d_MD_laysDiagonal_0 : decode prog_12_method_118_code 0 = .ok (.aload_n 0, 1) := F_MD_laysDiagonal_0.1
theorem d_MD_laysDiagonal_1 : decode prog_12_method_118_code 1 = .ok (.aload_n 0, 1) := F_MD_laysDiagonal_0.2.1
theorem d_MD_laysDiagonal_2 : decode prog_12_method_118_code 2 = .ok (.getfield 50, 3) := F_MD_laysDiagonal_0.2.2.1
theorem d_MD_laysDiagonal_5 : decode prog_12_method_118_code 5 = .ok (.iload_n 1, 1) := F_MD_laysDiagonal_0.2.2.2.1
theorem d_MD_laysDiagonal_6 : decode prog_12_method_118_code 6 = .ok (.iload_n 2, 1) := F_MD_laysDiagonal_0.2.2.2.2.1
theorem d_MD_laysDiagonal_7 : decode prog_12_method_118_code 7 = .ok (.iconst 1, 1) := F_MD_laysDiagonal_0.2.2.2.2.2.1
theorem d_MD_laysDiagonal_8 : decode prog_12_method_118_code 8 = .ok (.if_icmp .ne (7), 3) := F_MD_laysDiagonal_0.2.2.2.2.2.2.1
theorem d_MD_laysDiagonal_11 : decode prog_12_method_118_code 11 = .ok (.iconst 1, 1) := F_MD_laysDiagonal_0.2.2.2.2.2.2.2.1
theorem d_MD_laysDiagonal_12 : decode prog_12_method_118_code 12 = .ok (.goto (4), 3) := F_MD_laysDiagonal_0.2.2.2.2.2.2.2.2.1
theorem d_MD_laysDiagonal_15 : decode prog_12_method_118_code 15 = .ok (.iconst 0, 1) := F_MD_laysDiagonal_0.2.2.2.2.2.2.2.2.2.1
theorem d_MD_laysDiagonal_16 : decode prog_12_method_118_code 16 = .ok (.iload_n 2, 1) := F_MD_laysDiagonal_0.2.2.2.2.2.2.2.2.2.2.1
theorem d_MD_laysDiagonal_17 : decode prog_12_method_118_code 17 = .ok (.ifCond .ne (7), 3) := F_MD_laysDiagonal_0.2.2.2.2.2.2.2.2.2.2.2.1
theorem d_MD_laysDiagonal_20 : decode prog_12_method_118_code 20 = .ok (.iconst 1, 1) := F_MD_laysDiagonal_0.2.2.2.2.2.2.2.2.2.2.2.2.1
theorem d_MD_laysDiagonal_21 : decode prog_12_method_118_code 21 = .ok (.goto (4), 3) := F_MD_laysDiagonal_0.2.2.2.2.2.2.2.2.2.2.2.2.2.1
theorem d_MD_laysDiagonal_24 : decode prog_12_method_118_code 24 = .ok (.iconst 2, 1) := F_MD_laysDiagonal_0.2.2.2.2.2.2.2.2.2.2.2.2.2.2.1
theorem d_MD_laysDiagonal_25 : decode prog_12_method_118_code 25 = .ok (.invokevirtual 400, 3) := F_MD_laysDiagonal_0.2.2.2.2.2.2.2.2.2.2.2.2.2.2.2.1
theorem d_MD_laysDiagonal_28 : decode prog_12_method_118_code 28 = .ok (.aload_n 0, 1) := F_MD_laysDiagonal_0.2.2.2.2.2.2.2.2.2.2.2.2.2.2.2.2.1
theorem d_MD_laysDiagonal_29 : decode prog_12_method_118_code 29 = .ok (.aload_n 0, 1) := F_MD_laysDiagonal_0.2.2.2.2.2.2.2.2.2.2.2.2.2.2.2.2.2.1
theorem d_MD_laysDiagonal_30 : decode prog_12_method_118_code 30 = .ok (.getfield 53, 3) := F_MD_laysDiagonal_0.2.2.2.2.2.2.2.2.2.2.2.2.2.2.2.2.2.2.1
theorem d_MD_laysDiagonal_33 : decode prog_12_method_118_code 33 = .ok (.iload_n 1, 1) := F_MD_laysDiagonal_0.2.2.2.2.2.2.2.2.2.2.2.2.2.2.2.2.2.2.2.1
theorem d_MD_laysDiagonal_34 : decode prog_12_method_118_code 34 = .ok (.iload_n 2, 1) := F_MD_laysDiagonal_0.2.2.2.2.2.2.2.2.2.2.2.2.2.2.2.2.2.2.2.2.1
theorem d_MD_laysDiagonal_35 : decode prog_12_method_118_code 35 = .ok (.ifCond .ne (7), 3) := F_MD_laysDiagonal_0.2.2.2.2.2.2.2.2.2.2.2.2.2.2.2.2.2.2.2.2.2.1
theorem d_MD_laysDiagonal_38 : decode prog_12_method_118_code 38 = .ok (.iconst 2, 1) := F_MD_laysDiagonal_0.2.2.2.2.2.2.2.2.2.2.2.2.2.2.2.2.2.2.2.2.2.2.1
theorem d_MD_laysDiagonal_39 : decode prog_12_method_118_code 39 = .ok (.goto (13), 3) := F_MD_laysDiagonal_0.2.2.2.2.2.2.2.2.2.2.2.2.2.2.2.2.2.2.2.2.2.2.2.1
theorem d_MD_laysDiagonal_42 : decode prog_12_method_118_code 42 = .ok (.iload_n 2, 1) := F_MD_laysDiagonal_0.2.2.2.2.2.2.2.2.2.2.2.2.2.2.2.2.2.2.2.2.2.2.2.2.1
theorem d_MD_laysDiagonal_43 : decode prog_12_method_118_code 43 = .ok (.iconst 1, 1) := F_MD_laysDiagonal_0.2.2.2.2.2.2.2.2.2.2.2.2.2.2.2.2.2.2.2.2.2.2.2.2.2.1
theorem d_MD_laysDiagonal_44 : decode prog_12_method_118_code 44 = .ok (.if_icmp .ne (7), 3) := F_MD_laysDiagonal_0.2.2.2.2.2.2.2.2.2.2.2.2.2.2.2.2.2.2.2.2.2.2.2.2.2.2.1
theorem d_MD_laysDiagonal_47 : decode prog_12_method_118_code 47 = .ok (.iconst 3, 1) := F_MD_laysDiagonal_0.2.2.2.2.2.2.2.2.2.2.2.2.2.2.2.2.2.2.2.2.2.2.2.2.2.2.2.1
theorem d_MD_laysDiagonal_48 : decode prog_12_method_118_code 48 = .ok (.goto (4), 3) := F_MD_laysDiagonal_0.2.2.2.2.2.2.2.2.2.2.2.2.2.2.2.2.2.2.2.2.2.2.2.2.2.2.2.2.1
theorem d_MD_laysDiagonal_51 : decode prog_12_method_118_code 51 = .ok (.iconst 1, 1) := F_MD_laysDiagonal_0.2.2.2.2.2.2.2.2.2.2.2.2.2.2.2.2.2.2.2.2.2.2.2.2.2.2.2.2.2.1
theorem d_MD_laysDiagonal_52 : decode prog_12_method_118_code 52 = .ok (.iload_n 2, 1) := F_MD_laysDiagonal_0.2.2.2.2.2.2.2.2.2.2.2.2.2.2.2.2.2.2.2.2.2.2.2.2.2.2.2.2.2.2.1
theorem d_MD_laysDiagonal_53 : decode prog_12_method_118_code 53 = .ok (.iconst 1, 1) := F_MD_laysDiagonal_0.2.2.2.2.2.2.2.2.2.2.2.2.2.2.2.2.2.2.2.2.2.2.2.2.2.2.2.2.2.2.2.1
theorem F_MD_laysDiagonal_54 : Jvm.Free.DS.Facts prog_12_method_118_code 54 [(.if_icmp .ne (7), 3), (.iconst 0, 1), (.goto (4), 3), (.iconst 3, 1), (.invokevirtual 400, 3), (.aload_n 0, 1), (.getfield 50, 3), (.iconst 0, 1), (.laload, 1), (.lstore_n 3, 1), (.aload_n 0, 1), (.getfield 50, 3), (.iconst 1, 1), (.laload, 1), (.lstore 5, 2), (.aload_n 0, 1), (.getfield 50, 3), (.iconst 2, 1), (.laload, 1), (.lstore 7, 2), (.aload_n 0, 1), (.aload_n 0, 1), (.getfield 50, 3), (.lload_n 3, 1), (.lload 5, 2), (.lload 7, 2), (.aload_n 0, 1), (.getfield 53, 3), (.iconst 0, 1), (.laload, 1), (.aload_n 0, 1), (.getfield 53, 3)] := Jvm.Free.DS.facts 54 _ (by decide +kernel) (by decide +kernel)
theorem d_MD_laysDiagonal_54 : decode prog_12_method_118_code 54 = .ok (.if_icmp .ne (7), 3) := F_MD_laysDiagonal_54.1
theorem d_MD_laysDiagonal_57 : decode prog_12_method_118_code 57 = .ok (.iconst 0, 1) := F_MD_laysDiagonal_54.2.1
theorem d_MD_laysDiagonal_58 : decode prog_12_method_118_code 58 = .ok (.goto (4), 3) := F_MD_laysDiagonal_54.2.2.1
theorem d_MD_laysDiagonal_61 : decode prog_12_method_118_code 61 = .ok (.iconst 3, 1) := F_MD_laysDiagonal_54.2.2.2.1
theorem d_MD_laysDiagonal_62 : decode prog_12_method_118_code 62 = .ok (.invokevirtual 400, 3) := F_MD_laysDiagonal_54.2.2.2.2.1
theorem d_MD_laysDiagonal_65 : decode prog_12_method_118_code 65 = .ok (.aload_n 0, 1) := F_MD_laysDiagonal_54.2.2.2.2.2.1
theorem d_MD_laysDiagonal_66 : decode prog_12_method_118_code 66 = .ok (.getfield 50, 3) := F_MD_laysDiagonal_54.2.2.2.2.2.2.1
theorem d_MD_laysDiagonal_69 : decode prog_12_method_118_code 69 = .ok (.iconst 0, 1) := F_MD_laysDiagonal_54.2.2.2.2.2.2.2.1
theorem d_MD_laysDiagonal_70 : decode prog_12_method_118_code 70 = .ok (.laload, 1) := F_MD_laysDiagonal_54.2.2.2.2.2.2.2.2.1
theorem d_MD_laysDiagonal_71 : decode prog_12_method_118_code 71 = .ok (.lstore_n 3, 1) := F_MD_laysDiagonal_54.2.2.2.2.2.2.2.2.2.1
theorem d_MD_laysDiagonal_72 : decode prog_12_method_118_code 72 = .ok (.aload_n 0, 1) := F_MD_laysDiagonal_54.2.2.2.2.2.2.2.2.2.2.1
theorem d_MD_laysDiagonal_73 : decode prog_12_method_118_code 73 = .ok (.getfield 50, 3) := F_MD_laysDiagonal_54.2.2.2.2.2.2.2.2.2.2.2.1
theorem d_MD_laysDiagonal_76 : decode prog_12_method_118_code 76 = .ok (.iconst 1, 1) := F_MD_laysDiagonal_54.2.2.2.2.2.2.2.2.2.2.2.2.1
theorem d_MD_laysDiagonal_77 : decode prog_12_method_118_code 77 = .ok (.laload, 1) := F_MD_laysDiagonal_54.2.2.2.2.2.2.2.2.2.2.2.2.2.1
theorem d_MD_laysDiagonal_78 : decode prog_12_method_118_code 78 = .ok (.lstore 5, 2) := F_MD_laysDiagonal_54.2.2.2.2.2.2.2.2.2.2.2.2.2.2.1
theorem d_MD_laysDiagonal_80 : decode prog_12_method_118_code 80 = .ok (.aload_n 0, 1) := F_MD_laysDiagonal_54.2.2.2.2.2.2.2.2.2.2.2.2.2.2.2.1
theorem d_MD_laysDiagonal_81 : decode prog_12_method_118_code 81 = .ok (.getfield 50, 3) := F_MD_laysDiagonal_54.2.2.2.2.2.2.2.2.2.2.2.2.2.2.2.2.1
theorem d_MD_laysDiagonal_84 : decode prog_12_method_118_code 84 = .ok (.iconst 2, 1) := F_MD_laysDiagonal_54.2.2.2.2.2.2.2.2.2.2.2.2.2.2.2.2.2.1
theorem d_MD_laysDiagonal_85 : decode prog_12_method_118_code 85 = .ok (.laload, 1) := F_MD_laysDiagonal_54.2.2.2.2.2.2.2.2.2.2.2.2.2.2.2.2.2.2.1
theorem d_MD_laysDiagonal_86 : decode prog_12_method_118_code 86 = .ok (.lstore 7, 2) := F_MD_laysDiagonal_54.2.2.2.2.2.2.2.2.2.2.2.2.2.2.2.2.2.2.2.1
theorem d_MD_laysDiagonal_88 : decode prog_12_method_118_code 88 = .ok (.aload_n 0, 1) := F_MD_laysDiagonal_54.2.2.2.2.2.2.2.2.2.2.2.2.2.2.2.2.2.2.2.2.1
theorem d_MD_laysDiagonal_89 : decode prog_12_method_118_code 89 = .ok (.aload_n 0, 1) := F_MD_laysDiagonal_54.2.2.2.2.2.2.2.2.2.2.2.2.2.2.2.2.2.2.2.2.2.1
theorem d_MD_laysDiagonal_90 : decode prog_12_method_118_code 90 = .ok (.getfield 50, 3) := F_MD_laysDiagonal_54.2.2.2.2.2.2.2.2.2.2.2.2.2.2.2.2.2.2.2.2.2.2.1
theorem d_MD_laysDiagonal_93 : decode prog_12_method_118_code 93 = .ok (.lload_n 3, 1) := F_MD_laysDiagonal_54.2.2.2.2.2.2.2.2.2.2.2.2.2.2.2.2.2.2.2.2.2.2.2.1
theorem d_MD_laysDiagonal_94 : decode prog_12_method_118_code 94 = .ok (.lload 5, 2) := F_MD_laysDiagonal_54.2.2.2.2.2.2.2.2.2.2.2.2.2.2.2.2.2.2.2.2.2.2.2.2.1
theorem d_MD_laysDiagonal_96 : decode prog_12_method_118_code 96 = .ok (.lload 7, 2) := F_MD_laysDiagonal_54.2.2.2.2.2.2.2.2.2.2.2.2.2.2.2.2.2.2.2.2.2.2.2.2.2.1
theorem d_MD_laysDiagonal_98 : decode prog_12_method_118_code 98 = .ok (.aload_n 0, 1) := F_MD_laysDiagonal_54.2.2.2.2.2.2.2.2.2.2.2.2.2.2.2.2.2.2.2.2.2.2.2.2.2.2.1
theorem d_MD_laysDiagonal_99 : decode prog_12_method_118_code 99 = .ok (.getfield 53, 3) := F_MD_laysDiagonal_54.2.2.2.2.2.2.2.2.2.2.2.2.2.2.2.2.2.2.2.2.2.2.2.2.2.2.2.1
theorem d_MD_laysDiagonal_102 : decode prog_12_method_118_code 102 = .ok (.iconst 0, 1) := F_MD_laysDiagonal_54.2.2.2.2.2.2.2.2.2.2.2.2.2.2.2.2.2.2.2.2.2.2.2.2.2.2.2.2.1
theorem d_MD_laysDiagonal_103 : decode prog_12_method_118_code 103 = .ok (.laload, 1) := F_MD_laysDiagonal_54.2.2.2.2.2.2.2.2.2.2.2.2.2.2.2.2.2.2.2.2.2.2.2.2.2.2.2.2.2.1
theorem d_MD_laysDiagonal_104 : decode prog_12_method_118_code 104 = .ok (.aload_n 0, 1) := F_MD_laysDiagonal_54.2.2.2.2.2.2.2.2.2.2.2.2.2.2.2.2.2.2.2.2.2.2.2.2.2.2.2.2.2.2.1
theorem d_MD_laysDiagonal_105 : decode prog_12_method_118_code 105 = .ok (.getfield 53, 3) := F_MD_laysDiagonal_54.2.2.2.2.2.2.2.2.2.2.2.2.2.2.2.2.2.2.2.2.2.2.2.2.2.2.2.2.2.2.2.1
theorem F_MD_laysDiagonal_108 : Jvm.Free.DS.Facts prog_12_method_118_code 108 [(.iconst 1, 1), (.laload, 1), (.aload_n 0, 1), (.getfield 53, 3), (.iconst 2, 1), (.laload, 1), (.invokevirtual 337, 3), (.aload_n 0, 1), (.getfield 50, 3), (.invokestatic 220, 3), (.return_, 1)] := Jvm.Free.DS.facts 108 _ (by decide +kernel) (by decide +kernel)
theorem d_MD_laysDiagonal_108 : decode prog_12_method_118_code 108 = .ok (.iconst 1, 1) := F_MD_laysDiagonal_108.1
theorem d_MD_laysDiagonal_109 : decode prog_12_method_118_code 109 = .ok (.laload, 1) := F_MD_laysDiagonal_108.2.1
theorem d_MD_laysDiagonal_110 : decode prog_12_method_118_code 110 = .ok (.aload_n 0, 1) := F_MD_laysDiagonal_108.2.2.1
theorem d_MD_laysDiagonal_111 : decode prog_12_method_118_code 111 = .ok (.getfield 53, 3) := F_MD_laysDiagonal_108.2.2.2.1
theorem d_MD_laysDiagonal_114 : decode prog_12_method_118_code 114 = .ok (.iconst 2, 1) := F_MD_laysDiagonal_108.2.2.2.2.1
theorem d_MD_laysDiagonal_115 : decode prog_12_method_118_code 115 = .ok (.laload, 1) := F_MD_laysDiagonal_108.2.2.2.2.2.1
theorem d_MD_laysDiagonal_116 : decode prog_12_method_118_code 116 = .ok (.invokevirtual 337, 3) := F_MD_laysDiagonal_108.2.2.2.2.2.2.1
theorem d_MD_laysDiagonal_119 : decode prog_12_method_118_code 119 = .ok (.aload_n 0, 1) := F_MD_laysDiagonal_108.2.2.2.2.2.2.2.1
theorem d_MD_laysDiagonal_120 : decode prog_12_method_118_code 120 = .ok (.getfield 50, 3) := F_MD_laysDiagonal_108.2.2.2.2.2.2.2.2.1
theorem d_MD_laysDiagonal_123 : decode prog_12_method_118_code 123 = .ok (.invokestatic 220, 3) := F_MD_laysDiagonal_108.2.2.2.2.2.2.2.2.2.1
theorem d_MD_laysDiagonal_126 : decode prog_12_method_118_code 126 = .ok (.return_, 1) := F_MD_laysDiagonal_108.2.2.2.2.2.2.2.2.2.2.1
theorem F_MD_joins_0 : Jvm.Free.DS.Facts prog_12_method_117_code 0 [(.aload_n 0, 1), (.aload_n 1, 1), (.aload_n 0, 1), (.getfield 15, 3), (.bipush (8), 2), (.iload_n 2, 1), (.imul, 1), (.iconst 2, 1), (.iload_n 3, 1), (.imul, 1), (.iadd, 1), (.iaload, 1), (.i2l, 1), (.aload_n 0, 1), (.getfield 15, 3), (.bipush (8), 2), (.iload_n 2, 1), (.imul, 1), (.iconst 2, 1), (.iload_n 3, 1), (.imul, 1), (.iadd, 1), (.iconst 1, 1), (.iadd, 1), (.iaload, 1), (.i2l, 1), (.lconst 1, 1), (.aload_n 0, 1), (.getfield 15, 3), (.bipush (8), 2), (.iload_n 2, 1), (.imul, 1)] := Jvm.Free.DS.facts 0 _ (by decide +kernel) (by decide +kernel)
theorem d_MD_joins_0 : decode prog_12_method_117_code 0 = .ok (.aload_n 0, 1) := F_MD_joins_0.1
theorem d_MD_joins_1 : decode prog_12_method_117_code 1 = .ok (.aload_n 1, 1) := F_MD_joins_0.2.1
theorem d_MD_joins_2 : decode prog_12_method_117_code 2 = .ok (.aload_n 0, 1) := F_MD_joins_0.2.2.1
theorem d_MD_joins_3 : decode prog_12_method_117_code 3 = .ok (.getfield 15, 3) := F_MD_joins_0.2.2.2.1
theorem d_MD_joins_6 : decode prog_12_method_117_code 6 = .ok (.bipush (8), 2) := F_MD_joins_0.2.2.2.2.1
theorem d_MD_joins_8 : decode prog_12_method_117_code 8 = .ok (.iload_n 2, 1) := F_MD_joins_0.2.2.2.2.2.1
theorem d_MD_joins_9 : decode prog_12_method_117_code 9 = .ok (.imul, 1) := F_MD_joins_0.2.2.2.2.2.2.1
theorem d_MD_joins_10 : decode prog_12_method_117_code 10 = .ok (.iconst 2, 1) := F_MD_joins_0.2.2.2.2.2.2.2.1
theorem d_MD_joins_11 : decode prog_12_method_117_code 11 = .ok (.iload_n 3, 1) := F_MD_joins_0.2.2.2.2.2.2.2.2.1
theorem d_MD_joins_12 : decode prog_12_method_117_code 12 = .ok (.imul, 1) := F_MD_joins_0.2.2.2.2.2.2.2.2.2.1
theorem d_MD_joins_13 : decode prog_12_method_117_code 13 = .ok (.iadd, 1) := F_MD_joins_0.2.2.2.2.2.2.2.2.2.2.1
theorem d_MD_joins_14 : decode prog_12_method_117_code 14 = .ok (.iaload, 1) := F_MD_joins_0.2.2.2.2.2.2.2.2.2.2.2.1
theorem d_MD_joins_15 : decode prog_12_method_117_code 15 = .ok (.i2l, 1) := F_MD_joins_0.2.2.2.2.2.2.2.2.2.2.2.2.1
theorem d_MD_joins_16 : decode prog_12_method_117_code 16 = .ok (.aload_n 0, 1) := F_MD_joins_0.2.2.2.2.2.2.2.2.2.2.2.2.2.1
theorem d_MD_joins_17 : decode prog_12_method_117_code 17 = .ok (.getfield 15, 3) := F_MD_joins_0.2.2.2.2.2.2.2.2.2.2.2.2.2.2.1
theorem d_MD_joins_20 : decode prog_12_method_117_code 20 = .ok (.bipush (8), 2) := F_MD_joins_0.2.2.2.2.2.2.2.2.2.2.2.2.2.2.2.1
theorem d_MD_joins_22 : decode prog_12_method_117_code 22 = .ok (.iload_n 2, 1) := F_MD_joins_0.2.2.2.2.2.2.2.2.2.2.2.2.2.2.2.2.1
theorem d_MD_joins_23 : decode prog_12_method_117_code 23 = .ok (.imul, 1) := F_MD_joins_0.2.2.2.2.2.2.2.2.2.2.2.2.2.2.2.2.2.1
theorem d_MD_joins_24 : decode prog_12_method_117_code 24 = .ok (.iconst 2, 1) := F_MD_joins_0.2.2.2.2.2.2.2.2.2.2.2.2.2.2.2.2.2.2.1
theorem d_MD_joins_25 : decode prog_12_method_117_code 25 = .ok (.iload_n 3, 1) := F_MD_joins_0.2.2.2.2.2.2.2.2.2.2.2.2.2.2.2.2.2.2.2.1
theorem d_MD_joins_26 : decode prog_12_method_117_code 26 = .ok (.imul, 1) := F_MD_joins_0.2.2.2.2.2.2.2.2.2.2.2.2.2.2.2.2.2.2.2.2.1
theorem d_MD_joins_27 : decode prog_12_method_117_code 27 = .ok (.iadd, 1) := F_MD_joins_0.2.2.2.2.2.2.2.2.2.2.2.2.2.2.2.2.2.2.2.2.2.1
theorem d_MD_joins_28 : decode prog_12_method_117_code 28 = .ok (.iconst 1, 1) := F_MD_joins_0.2.2.2.2.2.2.2.2.2.2.2.2.2.2.2.2.2.2.2.2.2.2.1
theorem d_MD_joins_29 : decode prog_12_method_117_code 29 = .ok (.iadd, 1) := F_MD_joins_0.2.2.2.2.2.2.2.2.2.2.2.2.2.2.2.2.2.2.2.2.2.2.2.1
theorem d_MD_joins_30 : decode prog_12_method_117_code 30 = .ok (.iaload, 1) := F_MD_joins_0.2.2.2.2.2.2.2.2.2.2.2.2.2.2.2.2.2.2.2.2.2.2.2.2.1
theorem d_MD_joins_31 : decode prog_12_method_117_code 31 = .ok (.i2l, 1) := F_MD_joins_0.2.2.2.2.2.2.2.2.2.2.2.2.2.2.2.2.2.2.2.2.2.2.2.2.2.1
theorem d_MD_joins_32 : decode prog_12_method_117_code 32 = .ok (.lconst 1, 1) := F_MD_joins_0.2.2.2.2.2.2.2.2.2.2.2.2.2.2.2.2.2.2.2.2.2.2.2.2.2.2.1
theorem d_MD_joins_33 : decode prog_12_method_117_code 33 = .ok (.aload_n 0, 1) := F_MD_joins_0.2.2.2.2.2.2.2.2.2.2.2.2.2.2.2.2.2.2.2.2.2.2.2.2.2.2.2.1
theorem d_MD_joins_34 : decode prog_12_method_117_code 34 = .ok (.getfield 15, 3) := F_MD_joins_0.2.2.2.2.2.2.2.2.2.2.2.2.2.2.2.2.2.2.2.2.2.2.2.2.2.2.2.2.1
theorem d_MD_joins_37 : decode prog_12_method_117_code 37 = .ok (.bipush (8), 2) := F_MD_joins_0.2.2.2.2.2.2.2.2.2.2.2.2.2.2.2.2.2.2.2.2.2.2.2.2.2.2.2.2.2.1
theorem d_MD_joins_39 : decode prog_12_method_117_code 39 = .ok (.iload_n 2, 1) := F_MD_joins_0.2.2.2.2.2.2.2.2.2.2.2.2.2.2.2.2.2.2.2.2.2.2.2.2.2.2.2.2.2.2.1
theorem d_MD_joins_40 : decode prog_12_method_117_code 40 = .ok (.imul, 1) := F_MD_joins_0.2.2.2.2.2.2.2.2.2.2.2.2.2.2.2.2.2.2.2.2.2.2.2.2.2.2.2.2.2.2.2.1
theorem F_MD_joins_41 : Jvm.Free.DS.Facts prog_12_method_117_code 41 [(.iconst 2, 1), (.iload 4, 2), (.imul, 1), (.iadd, 1), (.iaload, 1), (.i2l, 1), (.aload_n 0, 1), (.getfield 15, 3), (.bipush (8), 2), (.iload_n 2, 1), (.imul, 1), (.iconst 2, 1), (.iload 4, 2), (.imul, 1), (.iadd, 1), (.iconst 1, 1), (.iadd, 1), (.iaload, 1), (.i2l, 1), (.lconst 1, 1), (.invokevirtual 337, 3), (.return_, 1)] := Jvm.Free.DS.facts 41 _ (by decide +kernel) (by decide +kernel)
theorem d_MD_joins_41 : decode prog_12_method_117_code 41 = .ok (.iconst 2, 1) := F_MD_joins_41.1
theorem d_MD_joins_42 : decode prog_12_method_117_code 42 = .ok (.iload 4, 2) := F_MD_joins_41.2.1
theorem d_MD_joins_44 : decode prog_12_method_117_code 44 = .ok (.imul, 1) := F_MD_joins_41.2.2.1
theorem d_MD_joins_45 : decode prog_12_method_117_code 45 = .ok (.iadd, 1) := F_MD_joins_41.2.2.2.1
theorem d_MD_joins_46 : decode prog_12_method_117_code 46 = .ok (.iaload, 1) := F_MD_joins_41.2.2.2.2.1
theorem d_MD_joins_47 : decode prog_12_method_117_code 47 = .ok (.i2l, 1) := F_MD_joins_41.2.2.2.2.2.1
theorem d_MD_joins_48 : decode prog_12_method_117_code 48 = .ok (.aload_n 0, 1) := F_MD_joins_41.2.2.2.2.2.2.1
theorem d_MD_joins_49 : decode prog_12_method_117_code 49 = .ok (.getfield 15, 3) := F_MD_joins_41.2.2.2.2.2.2.2.1
theorem d_MD_joins_52 : decode prog_12_method_117_code 52 = .ok (.bipush (8), 2) := F_MD_joins_41.2.2.2.2.2.2.2.2.1
theorem d_MD_joins_54 : decode prog_12_method_117_code 54 = .ok (.iload_n 2, 1) := F_MD_joins_41.2.2.2.2.2.2.2.2.2.1
theorem d_MD_joins_55 : decode prog_12_method_117_code 55 = .ok (.imul, 1) := F_MD_joins_41.2.2.2.2.2.2.2.2.2.2.1
theorem d_MD_joins_56 : decode prog_12_method_117_code 56 = .ok (.iconst 2, 1) := F_MD_joins_41.2.2.2.2.2.2.2.2.2.2.2.1
theorem d_MD_joins_57 : decode prog_12_method_117_code 57 = .ok (.iload 4, 2) := F_MD_joins_41.2.2.2.2.2.2.2.2.2.2.2.2.1
theorem d_MD_joins_59 : decode prog_12_method_117_code 59 = .ok (.imul, 1) := F_MD_joins_41.2.2.2.2.2.2.2.2.2.2.2.2.2.1
theorem d_MD_joins_60 : decode prog_12_method_117_code 60 = .ok (.iadd, 1) := F_MD_joins_41.2.2.2.2.2.2.2.2.2.2.2.2.2.2.1
theorem d_MD_joins_61 : decode prog_12_method_117_code 61 = .ok (.iconst 1, 1) := F_MD_joins_41.2.2.2.2.2.2.2.2.2.2.2.2.2.2.2.1
theorem d_MD_joins_62 : decode prog_12_method_117_code 62 = .ok (.iadd, 1) := F_MD_joins_41.2.2.2.2.2.2.2.2.2.2.2.2.2.2.2.2.1
theorem d_MD_joins_63 : decode prog_12_method_117_code 63 = .ok (.iaload, 1) := F_MD_joins_41.2.2.2.2.2.2.2.2.2.2.2.2.2.2.2.2.2.1
theorem d_MD_joins_64 : decode prog_12_method_117_code 64 = .ok (.i2l, 1) := F_MD_joins_41.2.2.2.2.2.2.2.2.2.2.2.2.2.2.2.2.2.2.1
theorem d_MD_joins_65 : decode prog_12_method_117_code 65 = .ok (.lconst 1, 1) := F_MD_joins_41.2.2.2.2.2.2.2.2.2.2.2.2.2.2.2.2.2.2.2.1
theorem d_MD_joins_66 : decode prog_12_method_117_code 66 = .ok (.invokevirtual 337, 3) := F_MD_joins_41.2.2.2.2.2.2.2.2.2.2.2.2.2.2.2.2.2.2.2.2.1
theorem d_MD_joins_69 : decode prog_12_method_117_code 69 = .ok (.return_, 1) := F_MD_joins_41.2.2.2.2.2.2.2.2.2.2.2.2.2.2.2.2.2.2.2.2.2.1
theorem F_MD_parallel_0 : Jvm.Free.DS.Facts prog_12_method_120_code 0 [(.aload_n 0, 1), (.iconst 0, 1), (.putfield 74, 3), (.aload_n 0, 1), (.iload_n 1, 1), (.invokevirtual 241, 3), (.ifCond .eq (11), 3), (.aload_n 0, 1), (.iload_n 2, 1), (.invokevirtual 238, 3), (.ifCond .ne (5), 3), (.iconst (-1), 1), (.ireturn, 1), (.aload_n 0, 1), (.iload_n 2, 1), (.iconst 0, 1), (.invokevirtual 404, 3), (.aload_n 0, 1), (.iload_n 1, 1), (.aload_n 0, 1), (.getfield 50, 3), (.iconst 0, 1), (.laload, 1), (.aload_n 0, 1), (.getfield 50, 3), (.iconst 1, 1), (.laload, 1), (.aload_n 0, 1), (.getfield 50, 3), (.iconst 2, 1), (.laload, 1), (.invokevirtual 315, 3)] := Jvm.Free.DS.facts 0 _ (by decide +kernel) (by decide +kernel)
theorem d_MD_parallel_0 : decode prog_12_method_120_code 0 = .ok (.aload_n 0, 1) := F_MD_parallel_0.1
theorem d_MD_parallel_1 : decode prog_12_method_120_code 1 = .ok (.iconst 0, 1) := F_MD_parallel_0.2.1
theorem d_MD_parallel_2 : decode prog_12_method_120_code 2 = .ok (.putfield 74, 3) := F_MD_parallel_0.2.2.1
theorem d_MD_parallel_5 : decode prog_12_method_120_code 5 = .ok (.aload_n 0, 1) := F_MD_parallel_0.2.2.2.1
theorem d_MD_parallel_6 : decode prog_12_method_120_code 6 = .ok (.iload_n 1, 1) := F_MD_parallel_0.2.2.2.2.1
theorem d_MD_parallel_7 : decode prog_12_method_120_code 7 = .ok (.invokevirtual 241, 3) := F_MD_parallel_0.2.2.2.2.2.1
theorem d_MD_parallel_10 : decode prog_12_method_120_code 10 = .ok (.ifCond .eq (11), 3) := F_MD_parallel_0.2.2.2.2.2.2.1
theorem d_MD_parallel_13 : decode prog_12_method_120_code 13 = .ok (.aload_n 0, 1) := F_MD_parallel_0.2.2.2.2.2.2.2.1
theorem d_MD_parallel_14 : decode prog_12_method_120_code 14 = .ok (.iload_n 2, 1) := F_MD_parallel_0.2.2.2.2.2.2.2.2.1
theorem d_MD_parallel_15 : decode prog_12_method_120_code 15 = .ok (.invokevirtual 238, 3) := F_MD_parallel_0.2.2.2.2.2.2.2.2.2.1
theorem d_MD_parallel_18 : decode prog_12_method_120_code 18 = .ok (.ifCond .ne (5), 3) := F_MD_parallel_0.2.2.2.2.2.2.2.2.2.2.1
theorem d_MD_parallel_21 : decode prog_12_method_120_code 21 = .ok (.iconst (-1), 1) := F_MD_parallel_0.2.2.2.2.2.2.2.2.2.2.2.1
theorem d_MD_parallel_22 : decode prog_12_method_120_code 22 = .ok (.ireturn, 1) := F_MD_parallel_0.2.2.2.2.2.2.2.2.2.2.2.2.1
theorem d_MD_parallel_23 : decode prog_12_method_120_code 23 = .ok (.aload_n 0, 1) := F_MD_parallel_0.2.2.2.2.2.2.2.2.2.2.2.2.2.1
theorem d_MD_parallel_24 : decode prog_12_method_120_code 24 = .ok (.iload_n 2, 1) := F_MD_parallel_0.2.2.2.2.2.2.2.2.2.2.2.2.2.2.1
theorem d_MD_parallel_25 : decode prog_12_method_120_code 25 = .ok (.iconst 0, 1) := F_MD_parallel_0.2.2.2.2.2.2.2.2.2.2.2.2.2.2.2.1
theorem d_MD_parallel_26 : decode prog_12_method_120_code 26 = .ok (.invokevirtual 404, 3) := F_MD_parallel_0.2.2.2.2.2.2.2.2.2.2.2.2.2.2.2.2.1
theorem d_MD_parallel_29 : decode prog_12_method_120_code 29 = .ok (.aload_n 0, 1) := F_MD_parallel_0.2.2.2.2.2.2.2.2.2.2.2.2.2.2.2.2.2.1
theorem d_MD_parallel_30 : decode prog_12_method_120_code 30 = .ok (.iload_n 1, 1) := F_MD_parallel_0.2.2.2.2.2.2.2.2.2.2.2.2.2.2.2.2.2.2.1
theorem d_MD_parallel_31 : decode prog_12_method_120_code 31 = .ok (.aload_n 0, 1) := F_MD_parallel_0.2.2.2.2.2.2.2.2.2.2.2.2.2.2.2.2.2.2.2.1
theorem d_MD_parallel_32 : decode prog_12_method_120_code 32 = .ok (.getfield 50, 3) := F_MD_parallel_0.2.2.2.2.2.2.2.2.2.2.2.2.2.2.2.2.2.2.2.2.1
theorem d_MD_parallel_35 : decode prog_12_method_120_code 35 = .ok (.iconst 0, 1) := F_MD_parallel_0.2.2.2.2.2.2.2.2.2.2.2.2.2.2.2.2.2.2.2.2.2.1
theorem d_MD_parallel_36 : decode prog_12_method_120_code 36 = .ok (.laload, 1) := F_MD_parallel_0.2.2.2.2.2.2.2.2.2.2.2.2.2.2.2.2.2.2.2.2.2.2.1
theorem d_MD_parallel_37 : decode prog_12_method_120_code 37 = .ok (.aload_n 0, 1) := F_MD_parallel_0.2.2.2.2.2.2.2.2.2.2.2.2.2.2.2.2.2.2.2.2.2.2.2.1
theorem d_MD_parallel_38 : decode prog_12_method_120_code 38 = .ok (.getfield 50, 3) := F_MD_parallel_0.2.2.2.2.2.2.2.2.2.2.2.2.2.2.2.2.2.2.2.2.2.2.2.2.1
theorem d_MD_parallel_41 : decode prog_12_method_120_code 41 = .ok (.iconst 1, 1) := F_MD_parallel_0.2.2.2.2.2.2.2.2.2.2.2.2.2.2.2.2.2.2.2.2.2.2.2.2.2.1
theorem d_MD_parallel_42 : decode prog_12_method_120_code 42 = .ok (.laload, 1) := F_MD_parallel_0.2.2.2.2.2.2.2.2.2.2.2.2.2.2.2.2.2.2.2.2.2.2.2.2.2.2.1
theorem d_MD_parallel_43 : decode prog_12_method_120_code 43 = .ok (.aload_n 0, 1) := F_MD_parallel_0.2.2.2.2.2.2.2.2.2.2.2.2.2.2.2.2.2.2.2.2.2.2.2.2.2.2.2.1
theorem d_MD_parallel_44 : decode prog_12_method_120_code 44 = .ok (.getfield 50, 3) := F_MD_parallel_0.2.2.2.2.2.2.2.2.2.2.2.2.2.2.2.2.2.2.2.2.2.2.2.2.2.2.2.2.1
theorem d_MD_parallel_47 : decode prog_12_method_120_code 47 = .ok (.iconst 2, 1) := F_MD_parallel_0.2.2.2.2.2.2.2.2.2.2.2.2.2.2.2.2.2.2.2.2.2.2.2.2.2.2.2.2.2.1
theorem d_MD_parallel_48 : decode prog_12_method_120_code 48 = .ok (.laload, 1) := F_MD_parallel_0.2.2.2.2.2.2.2.2.2.2.2.2.2.2.2.2.2.2.2.2.2.2.2.2.2.2.2.2.2.2.1
theorem d_MD_parallel_49 : decode prog_12_method_120_code 49 = .ok (.invokevirtual 315, 3) := F_MD_parallel_0.2.2.2.2.2.2.2.2.2.2.2.2.2.2.2.2.2.2.2.2.2.2.2.2.2.2.2.2.2.2.2.1
theorem F_MD_parallel_52 : Jvm.Free.DS.Facts prog_12_method_120_code 52 [(.ifCond .ne (7), 3), (.iconst 1, 1), (.goto (4), 3), (.iconst 0, 1), (.istore_n 3, 1), (.aload_n 0, 1), (.iload_n 2, 1), (.iconst 1, 1), (.invokevirtual 404, 3), (.iload_n 3, 1), (.aload_n 0, 1), (.iload_n 1, 1), (.aload_n 0, 1), (.getfield 50, 3), (.iconst 0, 1), (.laload, 1), (.aload_n 0, 1), (.getfield 50, 3), (.iconst 1, 1), (.laload, 1), (.aload_n 0, 1), (.getfield 50, 3), (.iconst 2, 1), (.laload, 1), (.invokevirtual 315, 3), (.ifCond .ne (7), 3), (.iconst 2, 1), (.goto (4), 3), (.iconst 0, 1), (.iadd, 1), (.ireturn, 1)] := Jvm.Free.DS.facts 52 _ (by decide +kernel) (by decide +kernel)
theorem d_MD_parallel_52 : decode prog_12_method_120_code 52 = .ok (.ifCond .ne (7), 3) := F_MD_parallel_52.1
theorem d_MD_parallel_55 : decode prog_12_method_120_code 55 = .ok (.iconst 1, 1) := F_MD_parallel_52.2.1
theorem d_MD_parallel_56 : decode prog_12_method_120_code 56 = .ok (.goto (4), 3) := F_MD_parallel_52.2.2.1
theorem d_MD_parallel_59 : decode prog_12_method_120_code 59 = .ok (.iconst 0, 1) := F_MD_parallel_52.2.2.2.1
theorem d_MD_parallel_60 : decode prog_12_method_120_code 60 = .ok (.istore_n 3, 1) := F_MD_parallel_52.2.2.2.2.1
theorem d_MD_parallel_61 : decode prog_12_method_120_code 61 = .ok (.aload_n 0, 1) := F_MD_parallel_52.2.2.2.2.2.1
theorem d_MD_parallel_62 : decode prog_12_method_120_code 62 = .ok (.iload_n 2, 1) := F_MD_parallel_52.2.2.2.2.2.2.1
theorem d_MD_parallel_63 : decode prog_12_method_120_code 63 = .ok (.iconst 1, 1) := F_MD_parallel_52.2.2.2.2.2.2.2.1
theorem d_MD_parallel_64 : decode prog_12_method_120_code 64 = .ok (.invokevirtual 404, 3) := F_MD_parallel_52.2.2.2.2.2.2.2.2.1
theorem d_MD_parallel_67 : decode prog_12_method_120_code 67 = .ok (.iload_n 3, 1) := F_MD_parallel_52.2.2.2.2.2.2.2.2.2.1
theorem d_MD_parallel_68 : decode prog_12_method_120_code 68 = .ok (.aload_n 0, 1) := F_MD_parallel_52.2.2.2.2.2.2.2.2.2.2.1
theorem d_MD_parallel_69 : decode prog_12_method_120_code 69 = .ok (.iload_n 1, 1) := F_MD_parallel_52.2.2.2.2.2.2.2.2.2.2.2.1
theorem d_MD_parallel_70 : decode prog_12_method_120_code 70 = .ok (.aload_n 0, 1) := F_MD_parallel_52.2.2.2.2.2.2.2.2.2.2.2.2.1
theorem d_MD_parallel_71 : decode prog_12_method_120_code 71 = .ok (.getfield 50, 3) := F_MD_parallel_52.2.2.2.2.2.2.2.2.2.2.2.2.2.1
theorem d_MD_parallel_74 : decode prog_12_method_120_code 74 = .ok (.iconst 0, 1) := F_MD_parallel_52.2.2.2.2.2.2.2.2.2.2.2.2.2.2.1
theorem d_MD_parallel_75 : decode prog_12_method_120_code 75 = .ok (.laload, 1) := F_MD_parallel_52.2.2.2.2.2.2.2.2.2.2.2.2.2.2.2.1
theorem d_MD_parallel_76 : decode prog_12_method_120_code 76 = .ok (.aload_n 0, 1) := F_MD_parallel_52.2.2.2.2.2.2.2.2.2.2.2.2.2.2.2.2.1
theorem d_MD_parallel_77 : decode prog_12_method_120_code 77 = .ok (.getfield 50, 3) := F_MD_parallel_52.2.2.2.2.2.2.2.2.2.2.2.2.2.2.2.2.2.1
theorem d_MD_parallel_80 : decode prog_12_method_120_code 80 = .ok (.iconst 1, 1) := F_MD_parallel_52.2.2.2.2.2.2.2.2.2.2.2.2.2.2.2.2.2.2.1
theorem d_MD_parallel_81 : decode prog_12_method_120_code 81 = .ok (.laload, 1) := F_MD_parallel_52.2.2.2.2.2.2.2.2.2.2.2.2.2.2.2.2.2.2.2.1
theorem d_MD_parallel_82 : decode prog_12_method_120_code 82 = .ok (.aload_n 0, 1) := F_MD_parallel_52.2.2.2.2.2.2.2.2.2.2.2.2.2.2.2.2.2.2.2.2.1
theorem d_MD_parallel_83 : decode prog_12_method_120_code 83 = .ok (.getfield 50, 3) := F_MD_parallel_52.2.2.2.2.2.2.2.2.2.2.2.2.2.2.2.2.2.2.2.2.2.1
theorem d_MD_parallel_86 : decode prog_12_method_120_code 86 = .ok (.iconst 2, 1) := F_MD_parallel_52.2.2.2.2.2.2.2.2.2.2.2.2.2.2.2.2.2.2.2.2.2.2.1
theorem d_MD_parallel_87 : decode prog_12_method_120_code 87 = .ok (.laload, 1) := F_MD_parallel_52.2.2.2.2.2.2.2.2.2.2.2.2.2.2.2.2.2.2.2.2.2.2.2.1
theorem d_MD_parallel_88 : decode prog_12_method_120_code 88 = .ok (.invokevirtual 315, 3) := F_MD_parallel_52.2.2.2.2.2.2.2.2.2.2.2.2.2.2.2.2.2.2.2.2.2.2.2.2.1
theorem d_MD_parallel_91 : decode prog_12_method_120_code 91 = .ok (.ifCond .ne (7), 3) := F_MD_parallel_52.2.2.2.2.2.2.2.2.2.2.2.2.2.2.2.2.2.2.2.2.2.2.2.2.2.1
theorem d_MD_parallel_94 : decode prog_12_method_120_code 94 = .ok (.iconst 2, 1) := F_MD_parallel_52.2.2.2.2.2.2.2.2.2.2.2.2.2.2.2.2.2.2.2.2.2.2.2.2.2.2.1
theorem d_MD_parallel_95 : decode prog_12_method_120_code 95 = .ok (.goto (4), 3) := F_MD_parallel_52.2.2.2.2.2.2.2.2.2.2.2.2.2.2.2.2.2.2.2.2.2.2.2.2.2.2.2.1
theorem d_MD_parallel_98 : decode prog_12_method_120_code 98 = .ok (.iconst 0, 1) := F_MD_parallel_52.2.2.2.2.2.2.2.2.2.2.2.2.2.2.2.2.2.2.2.2.2.2.2.2.2.2.2.2.1
theorem d_MD_parallel_99 : decode prog_12_method_120_code 99 = .ok (.iadd, 1) := F_MD_parallel_52.2.2.2.2.2.2.2.2.2.2.2.2.2.2.2.2.2.2.2.2.2.2.2.2.2.2.2.2.2.1
theorem d_MD_parallel_100 : decode prog_12_method_120_code 100 = .ok (.ireturn, 1) := F_MD_parallel_52.2.2.2.2.2.2.2.2.2.2.2.2.2.2.2.2.2.2.2.2.2.2.2.2.2.2.2.2.2.2.1
theorem F_MD_shapeBy_0 : Jvm.Free.DS.Facts prog_12_method_122_code 0 [(.aload_n 0, 1), (.iconst 0, 1), (.putfield 74, 3), (.aload_n 0, 1), (.iload_n 1, 1), (.invokevirtual 241, 3), (.ifCond .eq (11), 3), (.aload_n 0, 1), (.iload_n 2, 1), (.invokevirtual 238, 3), (.ifCond .ne (5), 3), (.iconst (-1), 1), (.ireturn, 1), (.iconst 0, 1), (.istore_n 3, 1), (.iload_n 3, 1), (.iconst 4, 1), (.if_icmp .ge (22), 3), (.aload_n 0, 1), (.iload_n 1, 1), (.iload_n 2, 1), (.iload_n 3, 1), (.invokevirtual 319, 3), (.ifCond .ne (6), 3), (.bipush (-2), 2), (.ireturn, 1), (.iinc 3 (1), 3), (.goto (-21), 3), (.iconst 0, 1), (.istore_n 3, 1), (.iload_n 3, 1), (.iconst 4, 1)] := Jvm.Free.DS.facts 0 _ (by decide +kernel) (by decide +kernel)
theorem d_MD_shapeBy_0 : decode prog_12_method_122_code 0 = .ok (.aload_n 0, 1) := F_MD_shapeBy_0.1
theorem d_MD_shapeBy_1 : decode prog_12_method_122_code 1 = .ok (.iconst 0, 1) := F_MD_shapeBy_0.2.1
theorem d_MD_shapeBy_2 : decode prog_12_method_122_code 2 = .ok (.putfield 74, 3) := F_MD_shapeBy_0.2.2.1
theorem d_MD_shapeBy_5 : decode prog_12_method_122_code 5 = .ok (.aload_n 0, 1) := F_MD_shapeBy_0.2.2.2.1
theorem d_MD_shapeBy_6 : decode prog_12_method_122_code 6 = .ok (.iload_n 1, 1) := F_MD_shapeBy_0.2.2.2.2.1
theorem d_MD_shapeBy_7 : decode prog_12_method_122_code 7 = .ok (.invokevirtual 241, 3) := F_MD_shapeBy_0.2.2.2.2.2.1
theorem d_MD_shapeBy_10 : decode prog_12_method_122_code 10 = .ok (.ifCond .eq (11), 3) := F_MD_shapeBy_0.2.2.2.2.2.2.1
theorem d_MD_shapeBy_13 : decode prog_12_method_122_code 13 = .ok (.aload_n 0, 1) := F_MD_shapeBy_0.2.2.2.2.2.2.2.1
theorem d_MD_shapeBy_14 : decode prog_12_method_122_code 14 = .ok (.iload_n 2, 1) := F_MD_shapeBy_0.2.2.2.2.2.2.2.2.1
theorem d_MD_shapeBy_15 : decode prog_12_method_122_code 15 = .ok (.invokevirtual 238, 3) := F_MD_shapeBy_0.2.2.2.2.2.2.2.2.2.1
theorem d_MD_shapeBy_18 : decode prog_12_method_122_code 18 = .ok (.ifCond .ne (5), 3) := F_MD_shapeBy_0.2.2.2.2.2.2.2.2.2.2.1
theorem d_MD_shapeBy_21 : decode prog_12_method_122_code 21 = .ok (.iconst (-1), 1) := F_MD_shapeBy_0.2.2.2.2.2.2.2.2.2.2.2.1
theorem d_MD_shapeBy_22 : decode prog_12_method_122_code 22 = .ok (.ireturn, 1) := F_MD_shapeBy_0.2.2.2.2.2.2.2.2.2.2.2.2.1
theorem d_MD_shapeBy_23 : decode prog_12_method_122_code 23 = .ok (.iconst 0, 1) := F_MD_shapeBy_0.2.2.2.2.2.2.2.2.2.2.2.2.2.1
theorem d_MD_shapeBy_24 : decode prog_12_method_122_code 24 = .ok (.istore_n 3, 1) := F_MD_shapeBy_0.2.2.2.2.2.2.2.2.2.2.2.2.2.2.1
theorem d_MD_shapeBy_25 : decode prog_12_method_122_code 25 = .ok (.iload_n 3, 1) := F_MD_shapeBy_0.2.2.2.2.2.2.2.2.2.2.2.2.2.2.2.1
theorem d_MD_shapeBy_26 : decode prog_12_method_122_code 26 = .ok (.iconst 4, 1) := F_MD_shapeBy_0.2.2.2.2.2.2.2.2.2.2.2.2.2.2.2.2.1
theorem d_MD_shapeBy_27 : decode prog_12_method_122_code 27 = .ok (.if_icmp .ge (22), 3) := F_MD_shapeBy_0.2.2.2.2.2.2.2.2.2.2.2.2.2.2.2.2.2.1
theorem d_MD_shapeBy_30 : decode prog_12_method_122_code 30 = .ok (.aload_n 0, 1) := F_MD_shapeBy_0.2.2.2.2.2.2.2.2.2.2.2.2.2.2.2.2.2.2.1
theorem d_MD_shapeBy_31 : decode prog_12_method_122_code 31 = .ok (.iload_n 1, 1) := F_MD_shapeBy_0.2.2.2.2.2.2.2.2.2.2.2.2.2.2.2.2.2.2.2.1
theorem d_MD_shapeBy_32 : decode prog_12_method_122_code 32 = .ok (.iload_n 2, 1) := F_MD_shapeBy_0.2.2.2.2.2.2.2.2.2.2.2.2.2.2.2.2.2.2.2.2.1
theorem d_MD_shapeBy_33 : decode prog_12_method_122_code 33 = .ok (.iload_n 3, 1) := F_MD_shapeBy_0.2.2.2.2.2.2.2.2.2.2.2.2.2.2.2.2.2.2.2.2.2.1
theorem d_MD_shapeBy_34 : decode prog_12_method_122_code 34 = .ok (.invokevirtual 319, 3) := F_MD_shapeBy_0.2.2.2.2.2.2.2.2.2.2.2.2.2.2.2.2.2.2.2.2.2.2.1
theorem d_MD_shapeBy_37 : decode prog_12_method_122_code 37 = .ok (.ifCond .ne (6), 3) := F_MD_shapeBy_0.2.2.2.2.2.2.2.2.2.2.2.2.2.2.2.2.2.2.2.2.2.2.2.1
theorem d_MD_shapeBy_40 : decode prog_12_method_122_code 40 = .ok (.bipush (-2), 2) := F_MD_shapeBy_0.2.2.2.2.2.2.2.2.2.2.2.2.2.2.2.2.2.2.2.2.2.2.2.2.1
theorem d_MD_shapeBy_42 : decode prog_12_method_122_code 42 = .ok (.ireturn, 1) := F_MD_shapeBy_0.2.2.2.2.2.2.2.2.2.2.2.2.2.2.2.2.2.2.2.2.2.2.2.2.2.1
theorem d_MD_shapeBy_43 : decode prog_12_method_122_code 43 = .ok (.iinc 3 (1), 3) := F_MD_shapeBy_0.2.2.2.2.2.2.2.2.2.2.2.2.2.2.2.2.2.2.2.2.2.2.2.2.2.2.1
theorem d_MD_shapeBy_46 : decode prog_12_method_122_code 46 = .ok (.goto (-21), 3) := F_MD_shapeBy_0.2.2.2.2.2.2.2.2.2.2.2.2.2.2.2.2.2.2.2.2.2.2.2.2.2.2.2.1
theorem d_MD_shapeBy_49 : decode prog_12_method_122_code 49 = .ok (.iconst 0, 1) := F_MD_shapeBy_0.2.2.2.2.2.2.2.2.2.2.2.2.2.2.2.2.2.2.2.2.2.2.2.2.2.2.2.2.1
theorem d_MD_shapeBy_50 : decode prog_12_method_122_code 50 = .ok (.istore_n 3, 1) := F_MD_shapeBy_0.2.2.2.2.2.2.2.2.2.2.2.2.2.2.2.2.2.2.2.2.2.2.2.2.2.2.2.2.2.1
theorem d_MD_shapeBy_51 : decode prog_12_method_122_code 51 = .ok (.iload_n 3, 1) := F_MD_shapeBy_0.2.2.2.2.2.2.2.2.2.2.2.2.2.2.2.2.2.2.2.2.2.2.2.2.2.2.2.2.2.2.1
theorem d_MD_shapeBy_52 : decode prog_12_method_122_code 52 = .ok (.iconst 4, 1) := F_MD_shapeBy_0.2.2.2.2.2.2.2.2.2.2.2.2.2.2.2.2.2.2.2.2.2.2.2.2.2.2.2.2.2.2.2.1
theorem F_MD_shapeBy_53 : Jvm.Free.DS.Facts prog_12_method_122_code 53 [(.if_icmp .ge (77), 3), (.iload_n 3, 1), (.iconst 1, 1), (.iadd, 1), (.iconst 4, 1), (.irem, 1), (.istore 4, 2), (.iload_n 3, 1), (.iconst 2, 1), (.iadd, 1), (.iconst 4, 1), (.irem, 1), (.istore 5, 2), (.iload_n 3, 1), (.iconst 3, 1), (.iadd, 1), (.iconst 4, 1), (.irem, 1), (.istore 6, 2), (.aload_n 0, 1), (.iload_n 1, 1), (.iload_n 2, 1), (.iload 4, 2), (.iload 5, 2), (.iload_n 3, 1), (.invokevirtual 407, 3), (.istore 7, 2), (.aload_n 0, 1), (.iload_n 1, 1), (.iload_n 2, 1), (.iload 5, 2), (.iload 6, 2)] := Jvm.Free.DS.facts 53 _ (by decide +kernel) (by decide +kernel)
theorem d_MD_shapeBy_53 : decode prog_12_method_122_code 53 = .ok (.if_icmp .ge (77), 3) := F_MD_shapeBy_53.1
theorem d_MD_shapeBy_56 : decode prog_12_method_122_code 56 = .ok (.iload_n 3, 1) := F_MD_shapeBy_53.2.1
theorem d_MD_shapeBy_57 : decode prog_12_method_122_code 57 = .ok (.iconst 1, 1) := F_MD_shapeBy_53.2.2.1
theorem d_MD_shapeBy_58 : decode prog_12_method_122_code 58 = .ok (.iadd, 1) := F_MD_shapeBy_53.2.2.2.1
theorem d_MD_shapeBy_59 : decode prog_12_method_122_code 59 = .ok (.iconst 4, 1) := F_MD_shapeBy_53.2.2.2.2.1
theorem d_MD_shapeBy_60 : decode prog_12_method_122_code 60 = .ok (.irem, 1) := F_MD_shapeBy_53.2.2.2.2.2.1
theorem d_MD_shapeBy_61 : decode prog_12_method_122_code 61 = .ok (.istore 4, 2) := F_MD_shapeBy_53.2.2.2.2.2.2.1
theorem d_MD_shapeBy_63 : decode prog_12_method_122_code 63 = .ok (.iload_n 3, 1) := F_MD_shapeBy_53.2.2.2.2.2.2.2.1
theorem d_MD_shapeBy_64 : decode prog_12_method_122_code 64 = .ok (.iconst 2, 1) := F_MD_shapeBy_53.2.2.2.2.2.2.2.2.1
theorem d_MD_shapeBy_65 : decode prog_12_method_122_code 65 = .ok (.iadd, 1) := F_MD_shapeBy_53.2.2.2.2.2.2.2.2.2.1
theorem d_MD_shapeBy_66 : decode prog_12_method_122_code 66 = .ok (.iconst 4, 1) := F_MD_shapeBy_53.2.2.2.2.2.2.2.2.2.2.1
theorem d_MD_shapeBy_67 : decode prog_12_method_122_code 67 = .ok (.irem, 1) := F_MD_shapeBy_53.2.2.2.2.2.2.2.2.2.2.2.1
theorem d_MD_shapeBy_68 : decode prog_12_method_122_code 68 = .ok (.istore 5, 2) := F_MD_shapeBy_53.2.2.2.2.2.2.2.2.2.2.2.2.1
theorem d_MD_shapeBy_70 : decode prog_12_method_122_code 70 = .ok (.iload_n 3, 1) := F_MD_shapeBy_53.2.2.2.2.2.2.2.2.2.2.2.2.2.1
theorem d_MD_shapeBy_71 : decode prog_12_method_122_code 71 = .ok (.iconst 3, 1) := F_MD_shapeBy_53.2.2.2.2.2.2.2.2.2.2.2.2.2.2.1
theorem d_MD_shapeBy_72 : decode prog_12_method_122_code 72 = .ok (.iadd, 1) := F_MD_shapeBy_53.2.2.2.2.2.2.2.2.2.2.2.2.2.2.2.1
theorem d_MD_shapeBy_73 : decode prog_12_method_122_code 73 = .ok (.iconst 4, 1) := F_MD_shapeBy_53.2.2.2.2.2.2.2.2.2.2.2.2.2.2.2.2.1
theorem d_MD_shapeBy_74 : decode prog_12_method_122_code 74 = .ok (.irem, 1) := F_MD_shapeBy_53.2.2.2.2.2.2.2.2.2.2.2.2.2.2.2.2.2.1
theorem d_MD_shapeBy_75 : decode prog_12_method_122_code 75 = .ok (.istore 6, 2) := F_MD_shapeBy_53.2.2.2.2.2.2.2.2.2.2.2.2.2.2.2.2.2.2.1
theorem d_MD_shapeBy_77 : decode prog_12_method_122_code 77 = .ok (.aload_n 0, 1) := F_MD_shapeBy_53.2.2.2.2.2.2.2.2.2.2.2.2.2.2.2.2.2.2.2.1
theorem d_MD_shapeBy_78 : decode prog_12_method_122_code 78 = .ok (.iload_n 1, 1) := F_MD_shapeBy_53.2.2.2.2.2.2.2.2.2.2.2.2.2.2.2.2.2.2.2.2.1
theorem d_MD_shapeBy_79 : decode prog_12_method_122_code 79 = .ok (.iload_n 2, 1) := F_MD_shapeBy_53.2.2.2.2.2.2.2.2.2.2.2.2.2.2.2.2.2.2.2.2.2.1
theorem d_MD_shapeBy_80 : decode prog_12_method_122_code 80 = .ok (.iload 4, 2) := F_MD_shapeBy_53.2.2.2.2.2.2.2.2.2.2.2.2.2.2.2.2.2.2.2.2.2.2.1
theorem d_MD_shapeBy_82 : decode prog_12_method_122_code 82 = .ok (.iload 5, 2) := F_MD_shapeBy_53.2.2.2.2.2.2.2.2.2.2.2.2.2.2.2.2.2.2.2.2.2.2.2.1
theorem d_MD_shapeBy_84 : decode prog_12_method_122_code 84 = .ok (.iload_n 3, 1) := F_MD_shapeBy_53.2.2.2.2.2.2.2.2.2.2.2.2.2.2.2.2.2.2.2.2.2.2.2.2.1
theorem d_MD_shapeBy_85 : decode prog_12_method_122_code 85 = .ok (.invokevirtual 407, 3) := F_MD_shapeBy_53.2.2.2.2.2.2.2.2.2.2.2.2.2.2.2.2.2.2.2.2.2.2.2.2.2.1
theorem d_MD_shapeBy_88 : decode prog_12_method_122_code 88 = .ok (.istore 7, 2) := F_MD_shapeBy_53.2.2.2.2.2.2.2.2.2.2.2.2.2.2.2.2.2.2.2.2.2.2.2.2.2.2.1
theorem d_MD_shapeBy_90 : decode prog_12_method_122_code 90 = .ok (.aload_n 0, 1) := F_MD_shapeBy_53.2.2.2.2.2.2.2.2.2.2.2.2.2.2.2.2.2.2.2.2.2.2.2.2.2.2.2.1
theorem d_MD_shapeBy_91 : decode prog_12_method_122_code 91 = .ok (.iload_n 1, 1) := F_MD_shapeBy_53.2.2.2.2.2.2.2.2.2.2.2.2.2.2.2.2.2.2.2.2.2.2.2.2.2.2.2.2.1
theorem d_MD_shapeBy_92 : decode prog_12_method_122_code 92 = .ok (.iload_n 2, 1) := F_MD_shapeBy_53.2.2.2.2.2.2.2.2.2.2.2.2.2.2.2.2.2.2.2.2.2.2.2.2.2.2.2.2.2.1
theorem d_MD_shapeBy_93 : decode prog_12_method_122_code 93 = .ok (.iload 5, 2) := F_MD_shapeBy_53.2.2.2.2.2.2.2.2.2.2.2.2.2.2.2.2.2.2.2.2.2.2.2.2.2.2.2.2.2.2.1
theorem d_MD_shapeBy_95 : decode prog_12_method_122_code 95 = .ok (.iload 6, 2) := F_MD_shapeBy_53.2.2.2.2.2.2.2.2.2.2.2.2.2.2.2.2.2.2.2.2.2.2.2.2.2.2.2.2.2.2.2.1
theorem F_MD_shapeBy_97 : Jvm.Free.DS.Facts prog_12_method_122_code 97 [(.iload_n 3, 1), (.invokevirtual 407, 3), (.iload 7, 2), (.if_icmp .ne (21), 3), (.aload_n 0, 1), (.iload_n 1, 1), (.iload_n 2, 1), (.iload 6, 2), (.iload 4, 2), (.iload_n 3, 1), (.invokevirtual 407, 3), (.iload 7, 2), (.if_icmp .ne (5), 3), (.iconst 1, 1), (.ireturn, 1), (.iinc 3 (1), 3), (.goto (-76), 3), (.aload_n 0, 1), (.iload_n 1, 1), (.iload_n 2, 1), (.iconst 0, 1), (.iconst 1, 1), (.iconst 2, 1), (.iconst 3, 1), (.invokevirtual 411, 3), (.ifCond .ne (16), 3), (.aload_n 0, 1), (.iload_n 1, 1), (.iload_n 2, 1), (.iconst 1, 1), (.iconst 2, 1), (.iconst 3, 1)] := Jvm.Free.DS.facts 97 _ (by decide +kernel) (by decide +kernel)
theorem d_MD_shapeBy_97 : decode prog_12_method_122_code 97 = .ok (.iload_n 3, 1) := F_MD_shapeBy_97.1
theorem d_MD_shapeBy_98 : decode prog_12_method_122_code 98 = .ok (.invokevirtual 407, 3) := F_MD_shapeBy_97.2.1
theorem d_MD_shapeBy_101 : decode prog_12_method_122_code 101 = .ok (.iload 7, 2) := F_MD_shapeBy_97.2.2.1
theorem d_MD_shapeBy_103 : decode prog_12_method_122_code 103 = .ok (.if_icmp .ne (21), 3) := F_MD_shapeBy_97.2.2.2.1
theorem d_MD_shapeBy_106 : decode prog_12_method_122_code 106 = .ok (.aload_n 0, 1) := F_MD_shapeBy_97.2.2.2.2.1
theorem d_MD_shapeBy_107 : decode prog_12_method_122_code 107 = .ok (.iload_n 1, 1) := F_MD_shapeBy_97.2.2.2.2.2.1
theorem d_MD_shapeBy_108 : decode prog_12_method_122_code 108 = .ok (.iload_n 2, 1) := F_MD_shapeBy_97.2.2.2.2.2.2.1
theorem d_MD_shapeBy_109 : decode prog_12_method_122_code 109 = .ok (.iload 6, 2) := F_MD_shapeBy_97.2.2.2.2.2.2.2.1
theorem d_MD_shapeBy_111 : decode prog_12_method_122_code 111 = .ok (.iload 4, 2) := F_MD_shapeBy_97.2.2.2.2.2.2.2.2.1
theorem d_MD_shapeBy_113 : decode prog_12_method_122_code 113 = .ok (.iload_n 3, 1) := F_MD_shapeBy_97.2.2.2.2.2.2.2.2.2.1
theorem d_MD_shapeBy_114 : decode prog_12_method_122_code 114 = .ok (.invokevirtual 407, 3) := F_MD_shapeBy_97.2.2.2.2.2.2.2.2.2.2.1
theorem d_MD_shapeBy_117 : decode prog_12_method_122_code 117 = .ok (.iload 7, 2) := F_MD_shapeBy_97.2.2.2.2.2.2.2.2.2.2.2.1
theorem d_MD_shapeBy_119 : decode prog_12_method_122_code 119 = .ok (.if_icmp .ne (5), 3) := F_MD_shapeBy_97.2.2.2.2.2.2.2.2.2.2.2.2.1
theorem d_MD_shapeBy_122 : decode prog_12_method_122_code 122 = .ok (.iconst 1, 1) := F_MD_shapeBy_97.2.2.2.2.2.2.2.2.2.2.2.2.2.1
theorem d_MD_shapeBy_123 : decode prog_12_method_122_code 123 = .ok (.ireturn, 1) := F_MD_shapeBy_97.2.2.2.2.2.2.2.2.2.2.2.2.2.2.1
theorem d_MD_shapeBy_124 : decode prog_12_method_122_code 124 = .ok (.iinc 3 (1), 3) := F_MD_shapeBy_97.2.2.2.2.2.2.2.2.2.2.2.2.2.2.2.1
theorem d_MD_shapeBy_127 : decode prog_12_method_122_code 127 = .ok (.goto (-76), 3) := F_MD_shapeBy_97.2.2.2.2.2.2.2.2.2.2.2.2.2.2.2.2.1
theorem d_MD_shapeBy_130 : decode prog_12_method_122_code 130 = .ok (.aload_n 0, 1) := F_MD_shapeBy_97.2.2.2.2.2.2.2.2.2.2.2.2.2.2.2.2.2.1
theorem d_MD_shapeBy_131 : decode prog_12_method_122_code 131 = .ok (.iload_n 1, 1) := F_MD_shapeBy_97.2.2.2.2.2.2.2.2.2.2.2.2.2.2.2.2.2.2.1
theorem d_MD_shapeBy_132 : decode prog_12_method_122_code 132 = .ok (.iload_n 2, 1) := F_MD_shapeBy_97.2.2.2.2.2.2.2.2.2.2.2.2.2.2.2.2.2.2.2.1
theorem d_MD_shapeBy_133 : decode prog_12_method_122_code 133 = .ok (.iconst 0, 1) := F_MD_shapeBy_97.2.2.2.2.2.2.2.2.2.2.2.2.2.2.2.2.2.2.2.2.1
theorem d_MD_shapeBy_134 : decode prog_12_method_122_code 134 = .ok (.iconst 1, 1) := F_MD_shapeBy_97.2.2.2.2.2.2.2.2.2.2.2.2.2.2.2.2.2.2.2.2.2.1
theorem d_MD_shapeBy_135 : decode prog_12_method_122_code 135 = .ok (.iconst 2, 1) := F_MD_shapeBy_97.2.2.2.2.2.2.2.2.2.2.2.2.2.2.2.2.2.2.2.2.2.2.1
theorem d_MD_shapeBy_136 : decode prog_12_method_122_code 136 = .ok (.iconst 3, 1) := F_MD_shapeBy_97.2.2.2.2.2.2.2.2.2.2.2.2.2.2.2.2.2.2.2.2.2.2.2.1
theorem d_MD_shapeBy_137 : decode prog_12_method_122_code 137 = .ok (.invokevirtual 411, 3) := F_MD_shapeBy_97.2.2.2.2.2.2.2.2.2.2.2.2.2.2.2.2.2.2.2.2.2.2.2.2.1
theorem d_MD_shapeBy_140 : decode prog_12_method_122_code 140 = .ok (.ifCond .ne (16), 3) := F_MD_shapeBy_97.2.2.2.2.2.2.2.2.2.2.2.2.2.2.2.2.2.2.2.2.2.2.2.2.2.1
theorem d_MD_shapeBy_143 : decode prog_12_method_122_code 143 = .ok (.aload_n 0, 1) := F_MD_shapeBy_97.2.2.2.2.2.2.2.2.2.2.2.2.2.2.2.2.2.2.2.2.2.2.2.2.2.2.1
theorem d_MD_shapeBy_144 : decode prog_12_method_122_code 144 = .ok (.iload_n 1, 1) := F_MD_shapeBy_97.2.2.2.2.2.2.2.2.2.2.2.2.2.2.2.2.2.2.2.2.2.2.2.2.2.2.2.1
theorem d_MD_shapeBy_145 : decode prog_12_method_122_code 145 = .ok (.iload_n 2, 1) := F_MD_shapeBy_97.2.2.2.2.2.2.2.2.2.2.2.2.2.2.2.2.2.2.2.2.2.2.2.2.2.2.2.2.1
theorem d_MD_shapeBy_146 : decode prog_12_method_122_code 146 = .ok (.iconst 1, 1) := F_MD_shapeBy_97.2.2.2.2.2.2.2.2.2.2.2.2.2.2.2.2.2.2.2.2.2.2.2.2.2.2.2.2.2.1
theorem d_MD_shapeBy_147 : decode prog_12_method_122_code 147 = .ok (.iconst 2, 1) := F_MD_shapeBy_97.2.2.2.2.2.2.2.2.2.2.2.2.2.2.2.2.2.2.2.2.2.2.2.2.2.2.2.2.2.2.1
theorem d_MD_shapeBy_148 : decode prog_12_method_122_code 148 = .ok (.iconst 3, 1) := F_MD_shapeBy_97.2.2.2.2.2.2.2.2.2.2.2.2.2.2.2.2.2.2.2.2.2.2.2.2.2.2.2.2.2.2.2.1
theorem F_MD_shapeBy_149 : Jvm.Free.DS.Facts prog_12_method_122_code 149 [(.iconst 0, 1), (.invokevirtual 411, 3), (.ifCond .eq (7), 3), (.iconst 2, 1), (.goto (4), 3), (.iconst 0, 1), (.ireturn, 1)] := Jvm.Free.DS.facts 149 _ (by decide +kernel) (by decide +kernel)
theorem d_MD_shapeBy_149 : decode prog_12_method_122_code 149 = .ok (.iconst 0, 1) := F_MD_shapeBy_149.1
theorem d_MD_shapeBy_150 : decode prog_12_method_122_code 150 = .ok (.invokevirtual 411, 3) := F_MD_shapeBy_149.2.1
theorem d_MD_shapeBy_153 : decode prog_12_method_122_code 153 = .ok (.ifCond .eq (7), 3) := F_MD_shapeBy_149.2.2.1
theorem d_MD_shapeBy_156 : decode prog_12_method_122_code 156 = .ok (.iconst 2, 1) := F_MD_shapeBy_149.2.2.2.1
theorem d_MD_shapeBy_157 : decode prog_12_method_122_code 157 = .ok (.goto (4), 3) := F_MD_shapeBy_149.2.2.2.2.1
theorem d_MD_shapeBy_160 : decode prog_12_method_122_code 160 = .ok (.iconst 0, 1) := F_MD_shapeBy_149.2.2.2.2.2.1
theorem d_MD_shapeBy_161 : decode prog_12_method_122_code 161 = .ok (.ireturn, 1) := F_MD_shapeBy_149.2.2.2.2.2.2.1
theorem F_MD_turnBy_0 : Jvm.Free.DS.Facts prog_12_method_121_code 0 [(.aload_n 0, 1), (.iload_n 1, 1), (.iload_n 2, 1), (.iload_n 3, 1), (.invokevirtual 319, 3), (.aload_n 0, 1), (.iload_n 1, 1), (.iload_n 2, 1), (.iload 4, 2), (.invokevirtual 319, 3), (.imul, 1), (.aload_n 0, 1), (.iload_n 1, 1), (.iload_n 2, 1), (.iload 5, 2), (.invokevirtual 319, 3), (.imul, 1), (.istore 6, 2), (.aload_n 0, 1), (.getfield 15, 3), (.iload_n 2, 1), (.iload_n 3, 1), (.iload 4, 2), (.iload 5, 2), (.invokestatic 161, 3), (.ifCond .le (8), 3), (.iload 6, 2), (.goto (6), 3), (.iload 6, 2), (.ineg, 1), (.ireturn, 1)] := Jvm.Free.DS.facts 0 _ (by decide +kernel) (by decide +kernel)
theorem d_MD_turnBy_0 : decode prog_12_method_121_code 0 = .ok (.aload_n 0, 1) := F_MD_turnBy_0.1
theorem d_MD_turnBy_1 : decode prog_12_method_121_code 1 = .ok (.iload_n 1, 1) := F_MD_turnBy_0.2.1
theorem d_MD_turnBy_2 : decode prog_12_method_121_code 2 = .ok (.iload_n 2, 1) := F_MD_turnBy_0.2.2.1
theorem d_MD_turnBy_3 : decode prog_12_method_121_code 3 = .ok (.iload_n 3, 1) := F_MD_turnBy_0.2.2.2.1
theorem d_MD_turnBy_4 : decode prog_12_method_121_code 4 = .ok (.invokevirtual 319, 3) := F_MD_turnBy_0.2.2.2.2.1
theorem d_MD_turnBy_7 : decode prog_12_method_121_code 7 = .ok (.aload_n 0, 1) := F_MD_turnBy_0.2.2.2.2.2.1
theorem d_MD_turnBy_8 : decode prog_12_method_121_code 8 = .ok (.iload_n 1, 1) := F_MD_turnBy_0.2.2.2.2.2.2.1
theorem d_MD_turnBy_9 : decode prog_12_method_121_code 9 = .ok (.iload_n 2, 1) := F_MD_turnBy_0.2.2.2.2.2.2.2.1
theorem d_MD_turnBy_10 : decode prog_12_method_121_code 10 = .ok (.iload 4, 2) := F_MD_turnBy_0.2.2.2.2.2.2.2.2.1
theorem d_MD_turnBy_12 : decode prog_12_method_121_code 12 = .ok (.invokevirtual 319, 3) := F_MD_turnBy_0.2.2.2.2.2.2.2.2.2.1
theorem d_MD_turnBy_15 : decode prog_12_method_121_code 15 = .ok (.imul, 1) := F_MD_turnBy_0.2.2.2.2.2.2.2.2.2.2.1
theorem d_MD_turnBy_16 : decode prog_12_method_121_code 16 = .ok (.aload_n 0, 1) := F_MD_turnBy_0.2.2.2.2.2.2.2.2.2.2.2.1
theorem d_MD_turnBy_17 : decode prog_12_method_121_code 17 = .ok (.iload_n 1, 1) := F_MD_turnBy_0.2.2.2.2.2.2.2.2.2.2.2.2.1
theorem d_MD_turnBy_18 : decode prog_12_method_121_code 18 = .ok (.iload_n 2, 1) := F_MD_turnBy_0.2.2.2.2.2.2.2.2.2.2.2.2.2.1
theorem d_MD_turnBy_19 : decode prog_12_method_121_code 19 = .ok (.iload 5, 2) := F_MD_turnBy_0.2.2.2.2.2.2.2.2.2.2.2.2.2.2.1
theorem d_MD_turnBy_21 : decode prog_12_method_121_code 21 = .ok (.invokevirtual 319, 3) := F_MD_turnBy_0.2.2.2.2.2.2.2.2.2.2.2.2.2.2.2.1
theorem d_MD_turnBy_24 : decode prog_12_method_121_code 24 = .ok (.imul, 1) := F_MD_turnBy_0.2.2.2.2.2.2.2.2.2.2.2.2.2.2.2.2.1
theorem d_MD_turnBy_25 : decode prog_12_method_121_code 25 = .ok (.istore 6, 2) := F_MD_turnBy_0.2.2.2.2.2.2.2.2.2.2.2.2.2.2.2.2.2.1
theorem d_MD_turnBy_27 : decode prog_12_method_121_code 27 = .ok (.aload_n 0, 1) := F_MD_turnBy_0.2.2.2.2.2.2.2.2.2.2.2.2.2.2.2.2.2.2.1
theorem d_MD_turnBy_28 : decode prog_12_method_121_code 28 = .ok (.getfield 15, 3) := F_MD_turnBy_0.2.2.2.2.2.2.2.2.2.2.2.2.2.2.2.2.2.2.2.1
theorem d_MD_turnBy_31 : decode prog_12_method_121_code 31 = .ok (.iload_n 2, 1) := F_MD_turnBy_0.2.2.2.2.2.2.2.2.2.2.2.2.2.2.2.2.2.2.2.2.1
theorem d_MD_turnBy_32 : decode prog_12_method_121_code 32 = .ok (.iload_n 3, 1) := F_MD_turnBy_0.2.2.2.2.2.2.2.2.2.2.2.2.2.2.2.2.2.2.2.2.2.1
theorem d_MD_turnBy_33 : decode prog_12_method_121_code 33 = .ok (.iload 4, 2) := F_MD_turnBy_0.2.2.2.2.2.2.2.2.2.2.2.2.2.2.2.2.2.2.2.2.2.2.1
theorem d_MD_turnBy_35 : decode prog_12_method_121_code 35 = .ok (.iload 5, 2) := F_MD_turnBy_0.2.2.2.2.2.2.2.2.2.2.2.2.2.2.2.2.2.2.2.2.2.2.2.1
theorem d_MD_turnBy_37 : decode prog_12_method_121_code 37 = .ok (.invokestatic 161, 3) := F_MD_turnBy_0.2.2.2.2.2.2.2.2.2.2.2.2.2.2.2.2.2.2.2.2.2.2.2.2.1
theorem d_MD_turnBy_40 : decode prog_12_method_121_code 40 = .ok (.ifCond .le (8), 3) := F_MD_turnBy_0.2.2.2.2.2.2.2.2.2.2.2.2.2.2.2.2.2.2.2.2.2.2.2.2.2.1
theorem d_MD_turnBy_43 : decode prog_12_method_121_code 43 = .ok (.iload 6, 2) := F_MD_turnBy_0.2.2.2.2.2.2.2.2.2.2.2.2.2.2.2.2.2.2.2.2.2.2.2.2.2.2.1
theorem d_MD_turnBy_45 : decode prog_12_method_121_code 45 = .ok (.goto (6), 3) := F_MD_turnBy_0.2.2.2.2.2.2.2.2.2.2.2.2.2.2.2.2.2.2.2.2.2.2.2.2.2.2.2.1
theorem d_MD_turnBy_48 : decode prog_12_method_121_code 48 = .ok (.iload 6, 2) := F_MD_turnBy_0.2.2.2.2.2.2.2.2.2.2.2.2.2.2.2.2.2.2.2.2.2.2.2.2.2.2.2.2.1
theorem d_MD_turnBy_50 : decode prog_12_method_121_code 50 = .ok (.ineg, 1) := F_MD_turnBy_0.2.2.2.2.2.2.2.2.2.2.2.2.2.2.2.2.2.2.2.2.2.2.2.2.2.2.2.2.2.1
theorem d_MD_turnBy_51 : decode prog_12_method_121_code 51 = .ok (.ireturn, 1) := F_MD_turnBy_0.2.2.2.2.2.2.2.2.2.2.2.2.2.2.2.2.2.2.2.2.2.2.2.2.2.2.2.2.2.2.1
theorem F_MD_doCrossBy_0 : Jvm.Free.DS.Facts prog_12_method_123_code 0 [(.aload_n 0, 1), (.iload_n 1, 1), (.iload_n 2, 1), (.iload_n 3, 1), (.iload 4, 2), (.iload 5, 2), (.invokevirtual 407, 3), (.aload_n 0, 1), (.iload_n 1, 1), (.iload_n 2, 1), (.iload_n 3, 1), (.iload 4, 2), (.iload 6, 2), (.invokevirtual 407, 3), (.if_icmp .eq (33), 3), (.aload_n 0, 1), (.iload_n 1, 1), (.iload_n 2, 1), (.iload 5, 2), (.iload 6, 2), (.iload_n 3, 1), (.invokevirtual 407, 3), (.aload_n 0, 1), (.iload_n 1, 1), (.iload_n 2, 1), (.iload 5, 2), (.iload 6, 2), (.iload 4, 2), (.invokevirtual 407, 3), (.if_icmp .eq (7), 3), (.iconst 1, 1), (.goto (4), 3)] := Jvm.Free.DS.facts 0 _ (by decide +kernel) (by decide +kernel)
theorem d_MD_doCrossBy_0 : decode prog_12_method_123_code 0 = .ok (.aload_n 0, 1) := F_MD_doCrossBy_0.1
theorem d_MD_doCrossBy_1 : decode prog_12_method_123_code 1 = .ok (.iload_n 1, 1) := F_MD_doCrossBy_0.2.1
theorem d_MD_doCrossBy_2 : decode prog_12_method_123_code 2 = .ok (.iload_n 2, 1) := F_MD_doCrossBy_0.2.2.1
theorem d_MD_doCrossBy_3 : decode prog_12_method_123_code 3 = .ok (.iload_n 3, 1) := F_MD_doCrossBy_0.2.2.2.1
theorem d_MD_doCrossBy_4 : decode prog_12_method_123_code 4 = .ok (.iload 4, 2) := F_MD_doCrossBy_0.2.2.2.2.1
theorem d_MD_doCrossBy_6 : decode prog_12_method_123_code 6 = .ok (.iload 5, 2) := F_MD_doCrossBy_0.2.2.2.2.2.1
theorem d_MD_doCrossBy_8 : decode prog_12_method_123_code 8 = .ok (.invokevirtual 407, 3) := F_MD_doCrossBy_0.2.2.2.2.2.2.1
theorem d_MD_doCrossBy_11 : decode prog_12_method_123_code 11 = .ok (.aload_n 0, 1) := F_MD_doCrossBy_0.2.2.2.2.2.2.2.1
theorem d_MD_doCrossBy_12 : decode prog_12_method_123_code 12 = .ok (.iload_n 1, 1) := F_MD_doCrossBy_0.2.2.2.2.2.2.2.2.1
theorem d_MD_doCrossBy_13 : decode prog_12_method_123_code 13 = .ok (.iload_n 2, 1) := F_MD_doCrossBy_0.2.2.2.2.2.2.2.2.2.1
theorem d_MD_doCrossBy_14 : decode prog_12_method_123_code 14 = .ok (.iload_n 3, 1) := F_MD_doCrossBy_0.2.2.2.2.2.2.2.2.2.2.1
theorem d_MD_doCrossBy_15 : decode prog_12_method_123_code 15 = .ok (.iload 4, 2) := F_MD_doCrossBy_0.2.2.2.2.2.2.2.2.2.2.2.1
theorem d_MD_doCrossBy_17 : decode prog_12_method_123_code 17 = .ok (.iload 6, 2) := F_MD_doCrossBy_0.2.2.2.2.2.2.2.2.2.2.2.2.1
theorem d_MD_doCrossBy_19 : decode prog_12_method_123_code 19 = .ok (.invokevirtual 407, 3) := F_MD_doCrossBy_0.2.2.2.2.2.2.2.2.2.2.2.2.2.1
theorem d_MD_doCrossBy_22 : decode prog_12_method_123_code 22 = .ok (.if_icmp .eq (33), 3) := F_MD_doCrossBy_0.2.2.2.2.2.2.2.2.2.2.2.2.2.2.1
theorem d_MD_doCrossBy_25 : decode prog_12_method_123_code 25 = .ok (.aload_n 0, 1) := F_MD_doCrossBy_0.2.2.2.2.2.2.2.2.2.2.2.2.2.2.2.1
theorem d_MD_doCrossBy_26 : decode prog_12_method_123_code 26 = .ok (.iload_n 1, 1) := F_MD_doCrossBy_0.2.2.2.2.2.2.2.2.2.2.2.2.2.2.2.2.1
theorem d_MD_doCrossBy_27 : decode prog_12_method_123_code 27 = .ok (.iload_n 2, 1) := F_MD_doCrossBy_0.2.2.2.2.2.2.2.2.2.2.2.2.2.2.2.2.2.1
theorem d_MD_doCrossBy_28 : decode prog_12_method_123_code 28 = .ok (.iload 5, 2) := F_MD_doCrossBy_0.2.2.2.2.2.2.2.2.2.2.2.2.2.2.2.2.2.2.1
theorem d_MD_doCrossBy_30 : decode prog_12_method_123_code 30 = .ok (.iload 6, 2) := F_MD_doCrossBy_0.2.2.2.2.2.2.2.2.2.2.2.2.2.2.2.2.2.2.2.1
theorem d_MD_doCrossBy_32 : decode prog_12_method_123_code 32 = .ok (.iload_n 3, 1) := F_MD_doCrossBy_0.2.2.2.2.2.2.2.2.2.2.2.2.2.2.2.2.2.2.2.2.1
theorem d_MD_doCrossBy_33 : decode prog_12_method_123_code 33 = .ok (.invokevirtual 407, 3) := F_MD_doCrossBy_0.2.2.2.2.2.2.2.2.2.2.2.2.2.2.2.2.2.2.2.2.2.1
theorem d_MD_doCrossBy_36 : decode prog_12_method_123_code 36 = .ok (.aload_n 0, 1) := F_MD_doCrossBy_0.2.2.2.2.2.2.2.2.2.2.2.2.2.2.2.2.2.2.2.2.2.2.1
theorem d_MD_doCrossBy_37 : decode prog_12_method_123_code 37 = .ok (.iload_n 1, 1) := F_MD_doCrossBy_0.2.2.2.2.2.2.2.2.2.2.2.2.2.2.2.2.2.2.2.2.2.2.2.1
theorem d_MD_doCrossBy_38 : decode prog_12_method_123_code 38 = .ok (.iload_n 2, 1) := F_MD_doCrossBy_0.2.2.2.2.2.2.2.2.2.2.2.2.2.2.2.2.2.2.2.2.2.2.2.2.1
theorem d_MD_doCrossBy_39 : decode prog_12_method_123_code 39 = .ok (.iload 5, 2) := F_MD_doCrossBy_0.2.2.2.2.2.2.2.2.2.2.2.2.2.2.2.2.2.2.2.2.2.2.2.2.2.1
theorem d_MD_doCrossBy_41 : decode prog_12_method_123_code 41 = .ok (.iload 6, 2) := F_MD_doCrossBy_0.2.2.2.2.2.2.2.2.2.2.2.2.2.2.2.2.2.2.2.2.2.2.2.2.2.2.1
theorem d_MD_doCrossBy_43 : decode prog_12_method_123_code 43 = .ok (.iload 4, 2) := F_MD_doCrossBy_0.2.2.2.2.2.2.2.2.2.2.2.2.2.2.2.2.2.2.2.2.2.2.2.2.2.2.2.1
theorem d_MD_doCrossBy_45 : decode prog_12_method_123_code 45 = .ok (.invokevirtual 407, 3) := F_MD_doCrossBy_0.2.2.2.2.2.2.2.2.2.2.2.2.2.2.2.2.2.2.2.2.2.2.2.2.2.2.2.2.1
theorem d_MD_doCrossBy_48 : decode prog_12_method_123_code 48 = .ok (.if_icmp .eq (7), 3) := F_MD_doCrossBy_0.2.2.2.2.2.2.2.2.2.2.2.2.2.2.2.2.2.2.2.2.2.2.2.2.2.2.2.2.2.1
theorem d_MD_doCrossBy_51 : decode prog_12_method_123_code 51 = .ok (.iconst 1, 1) := F_MD_doCrossBy_0.2.2.2.2.2.2.2.2.2.2.2.2.2.2.2.2.2.2.2.2.2.2.2.2.2.2.2.2.2.2.1
theorem d_MD_doCrossBy_52 : decode prog_12_method_123_code 52 = .ok (.goto (4), 3) := F_MD_doCrossBy_0.2.2.2.2.2.2.2.2.2.2.2.2.2.2.2.2.2.2.2.2.2.2.2.2.2.2.2.2.2.2.2.1
theorem F_MD_doCrossBy_55 : Jvm.Free.DS.Facts prog_12_method_123_code 55 [(.iconst 0, 1), (.ireturn, 1)] := Jvm.Free.DS.facts 55 _ (by decide +kernel) (by decide +kernel)
theorem d_MD_doCrossBy_55 : decode prog_12_method_123_code 55 = .ok (.iconst 0, 1) := F_MD_doCrossBy_55.1
theorem d_MD_doCrossBy_56 : decode prog_12_method_123_code 56 = .ok (.ireturn, 1) := F_MD_doCrossBy_55.2.1
theorem F_MD_symmetries_0 : Jvm.Free.DS.Facts prog_12_method_125_code 0 [(.aload_n 0, 1), (.iconst 0, 1), (.putfield 74, 3), (.aload_n 0, 1), (.iload_n 1, 1), (.invokevirtual 238, 3), (.ifCond .eq (12), 3), (.iload_n 2, 1), (.ifCond .lt (8), 3), (.iload_n 2, 1), (.iconst 5, 1), (.if_icmp .le (5), 3), (.iconst (-1), 1), (.ireturn, 1), (.iconst 0, 1), (.istore_n 3, 1), (.iconst 0, 1), (.istore 4, 2), (.iload 4, 2), (.bipush (24), 2), (.if_icmp .ge (33), 3), (.aload_n 0, 1), (.iload_n 1, 1), (.iload_n 1, 1), (.iload 4, 2), (.invokevirtual 415, 3), (.iload_n 3, 1), (.aload_n 0, 1), (.invokevirtual 323, 3), (.iload_n 2, 1), (.if_icmp .gt (7), 3), (.iconst 1, 1)] := Jvm.Free.DS.facts 0 _ (by decide +kernel) (by decide +kernel)
theorem d_MD_symmetries_0 : decode prog_12_method_125_code 0 = .ok (.aload_n 0, 1) := F_MD_symmetries_0.1
theorem d_MD_symmetries_1 : decode prog_12_method_125_code 1 = .ok (.iconst 0, 1) := F_MD_symmetries_0.2.1
theorem d_MD_symmetries_2 : decode prog_12_method_125_code 2 = .ok (.putfield 74, 3) := F_MD_symmetries_0.2.2.1
theorem d_MD_symmetries_5 : decode prog_12_method_125_code 5 = .ok (.aload_n 0, 1) := F_MD_symmetries_0.2.2.2.1
theorem d_MD_symmetries_6 : decode prog_12_method_125_code 6 = .ok (.iload_n 1, 1) := F_MD_symmetries_0.2.2.2.2.1
theorem d_MD_symmetries_7 : decode prog_12_method_125_code 7 = .ok (.invokevirtual 238, 3) := F_MD_symmetries_0.2.2.2.2.2.1
theorem d_MD_symmetries_10 : decode prog_12_method_125_code 10 = .ok (.ifCond .eq (12), 3) := F_MD_symmetries_0.2.2.2.2.2.2.1
theorem d_MD_symmetries_13 : decode prog_12_method_125_code 13 = .ok (.iload_n 2, 1) := F_MD_symmetries_0.2.2.2.2.2.2.2.1
theorem d_MD_symmetries_14 : decode prog_12_method_125_code 14 = .ok (.ifCond .lt (8), 3) := F_MD_symmetries_0.2.2.2.2.2.2.2.2.1
theorem d_MD_symmetries_17 : decode prog_12_method_125_code 17 = .ok (.iload_n 2, 1) := F_MD_symmetries_0.2.2.2.2.2.2.2.2.2.1
theorem d_MD_symmetries_18 : decode prog_12_method_125_code 18 = .ok (.iconst 5, 1) := F_MD_symmetries_0.2.2.2.2.2.2.2.2.2.2.1
theorem d_MD_symmetries_19 : decode prog_12_method_125_code 19 = .ok (.if_icmp .le (5), 3) := F_MD_symmetries_0.2.2.2.2.2.2.2.2.2.2.2.1
theorem d_MD_symmetries_22 : decode prog_12_method_125_code 22 = .ok (.iconst (-1), 1) := F_MD_symmetries_0.2.2.2.2.2.2.2.2.2.2.2.2.1
theorem d_MD_symmetries_23 : decode prog_12_method_125_code 23 = .ok (.ireturn, 1) := F_MD_symmetries_0.2.2.2.2.2.2.2.2.2.2.2.2.2.1
theorem d_MD_symmetries_24 : decode prog_12_method_125_code 24 = .ok (.iconst 0, 1) := F_MD_symmetries_0.2.2.2.2.2.2.2.2.2.2.2.2.2.2.1
theorem d_MD_symmetries_25 : decode prog_12_method_125_code 25 = .ok (.istore_n 3, 1) := F_MD_symmetries_0.2.2.2.2.2.2.2.2.2.2.2.2.2.2.2.1
theorem d_MD_symmetries_26 : decode prog_12_method_125_code 26 = .ok (.iconst 0, 1) := F_MD_symmetries_0.2.2.2.2.2.2.2.2.2.2.2.2.2.2.2.2.1
theorem d_MD_symmetries_27 : decode prog_12_method_125_code 27 = .ok (.istore 4, 2) := F_MD_symmetries_0.2.2.2.2.2.2.2.2.2.2.2.2.2.2.2.2.2.1
theorem d_MD_symmetries_29 : decode prog_12_method_125_code 29 = .ok (.iload 4, 2) := F_MD_symmetries_0.2.2.2.2.2.2.2.2.2.2.2.2.2.2.2.2.2.2.1
theorem d_MD_symmetries_31 : decode prog_12_method_125_code 31 = .ok (.bipush (24), 2) := F_MD_symmetries_0.2.2.2.2.2.2.2.2.2.2.2.2.2.2.2.2.2.2.2.1
theorem d_MD_symmetries_33 : decode prog_12_method_125_code 33 = .ok (.if_icmp .ge (33), 3) := F_MD_symmetries_0.2.2.2.2.2.2.2.2.2.2.2.2.2.2.2.2.2.2.2.2.1
theorem d_MD_symmetries_36 : decode prog_12_method_125_code 36 = .ok (.aload_n 0, 1) := F_MD_symmetries_0.2.2.2.2.2.2.2.2.2.2.2.2.2.2.2.2.2.2.2.2.2.1
theorem d_MD_symmetries_37 : decode prog_12_method_125_code 37 = .ok (.iload_n 1, 1) := F_MD_symmetries_0.2.2.2.2.2.2.2.2.2.2.2.2.2.2.2.2.2.2.2.2.2.2.1
theorem d_MD_symmetries_38 : decode prog_12_method_125_code 38 = .ok (.iload_n 1, 1) := F_MD_symmetries_0.2.2.2.2.2.2.2.2.2.2.2.2.2.2.2.2.2.2.2.2.2.2.2.1
theorem d_MD_symmetries_39 : decode prog_12_method_125_code 39 = .ok (.iload 4, 2) := F_MD_symmetries_0.2.2.2.2.2.2.2.2.2.2.2.2.2.2.2.2.2.2.2.2.2.2.2.2.1
theorem d_MD_symmetries_41 : decode prog_12_method_125_code 41 = .ok (.invokevirtual 415, 3) := F_MD_symmetries_0.2.2.2.2.2.2.2.2.2.2.2.2.2.2.2.2.2.2.2.2.2.2.2.2.2.1
theorem d_MD_symmetries_44 : decode prog_12_method_125_code 44 = .ok (.iload_n 3, 1) := F_MD_symmetries_0.2.2.2.2.2.2.2.2.2.2.2.2.2.2.2.2.2.2.2.2.2.2.2.2.2.2.1
theorem d_MD_symmetries_45 : decode prog_12_method_125_code 45 = .ok (.aload_n 0, 1) := F_MD_symmetries_0.2.2.2.2.2.2.2.2.2.2.2.2.2.2.2.2.2.2.2.2.2.2.2.2.2.2.2.1
theorem d_MD_symmetries_46 : decode prog_12_method_125_code 46 = .ok (.invokevirtual 323, 3) := F_MD_symmetries_0.2.2.2.2.2.2.2.2.2.2.2.2.2.2.2.2.2.2.2.2.2.2.2.2.2.2.2.2.1
theorem d_MD_symmetries_49 : decode prog_12_method_125_code 49 = .ok (.iload_n 2, 1) := F_MD_symmetries_0.2.2.2.2.2.2.2.2.2.2.2.2.2.2.2.2.2.2.2.2.2.2.2.2.2.2.2.2.2.1
theorem d_MD_symmetries_50 : decode prog_12_method_125_code 50 = .ok (.if_icmp .gt (7), 3) := F_MD_symmetries_0.2.2.2.2.2.2.2.2.2.2.2.2.2.2.2.2.2.2.2.2.2.2.2.2.2.2.2.2.2.2.1
theorem d_MD_symmetries_53 : decode prog_12_method_125_code 53 = .ok (.iconst 1, 1) := F_MD_symmetries_0.2.2.2.2.2.2.2.2.2.2.2.2.2.2.2.2.2.2.2.2.2.2.2.2.2.2.2.2.2.2.2.1
theorem F_MD_symmetries_54 : Jvm.Free.DS.Facts prog_12_method_125_code 54 [(.goto (4), 3), (.iconst 0, 1), (.iadd, 1), (.istore_n 3, 1), (.iinc 4 (1), 3), (.goto (-34), 3), (.iload_n 3, 1), (.ireturn, 1)] := Jvm.Free.DS.facts 54 _ (by decide +kernel) (by decide +kernel)
theorem d_MD_symmetries_54 : decode prog_12_method_125_code 54 = .ok (.goto (4), 3) := F_MD_symmetries_54.1
theorem d_MD_symmetries_57 : decode prog_12_method_125_code 57 = .ok (.iconst 0, 1) := F_MD_symmetries_54.2.1
theorem d_MD_symmetries_58 : decode prog_12_method_125_code 58 = .ok (.iadd, 1) := F_MD_symmetries_54.2.2.1
theorem d_MD_symmetries_59 : decode prog_12_method_125_code 59 = .ok (.istore_n 3, 1) := F_MD_symmetries_54.2.2.2.1
theorem d_MD_symmetries_60 : decode prog_12_method_125_code 60 = .ok (.iinc 4 (1), 3) := F_MD_symmetries_54.2.2.2.2.1
theorem d_MD_symmetries_63 : decode prog_12_method_125_code 63 = .ok (.goto (-34), 3) := F_MD_symmetries_54.2.2.2.2.2.1
theorem d_MD_symmetries_66 : decode prog_12_method_125_code 66 = .ok (.iload_n 3, 1) := F_MD_symmetries_54.2.2.2.2.2.2.1
theorem d_MD_symmetries_67 : decode prog_12_method_125_code 67 = .ok (.ireturn, 1) := F_MD_symmetries_54.2.2.2.2.2.2.2.1
theorem F_MD_laysOrder_0 : Jvm.Free.DS.Facts prog_12_method_124_code 0 [(.iconst 0, 1), (.istore 4, 2), (.iload_n 3, 1), (.istore 5, 2), (.bipush (6), 2), (.istore 6, 2), (.iconst 0, 1), (.istore 7, 2), (.iload 7, 2), (.iconst 4, 1), (.if_icmp .ge (184), 3), (.iload 5, 2), (.iload 6, 2), (.idiv, 1), (.istore 8, 2), (.iload 5, 2), (.iload 6, 2), (.irem, 1), (.istore 5, 2), (.iload 6, 2), (.iload 7, 2), (.iconst 3, 1), (.if_icmp .ne (7), 3), (.iconst 1, 1), (.goto (18), 3), (.iconst 3, 1), (.iload 7, 2), (.isub, 1), (.ifCond .le (10), 3), (.iconst 3, 1), (.iload 7, 2), (.isub, 1)] := Jvm.Free.DS.facts 0 _ (by decide +kernel) (by decide +kernel)
theorem d_MD_laysOrder_0 : decode prog_12_method_124_code 0 = .ok (.iconst 0, 1) := F_MD_laysOrder_0.1
theorem d_MD_laysOrder_1 : decode prog_12_method_124_code 1 = .ok (.istore 4, 2) := F_MD_laysOrder_0.2.1
theorem d_MD_laysOrder_3 : decode prog_12_method_124_code 3 = .ok (.iload_n 3, 1) := F_MD_laysOrder_0.2.2.1
theorem d_MD_laysOrder_4 : decode prog_12_method_124_code 4 = .ok (.istore 5, 2) := F_MD_laysOrder_0.2.2.2.1
theorem d_MD_laysOrder_6 : decode prog_12_method_124_code 6 = .ok (.bipush (6), 2) := F_MD_laysOrder_0.2.2.2.2.1
theorem d_MD_laysOrder_8 : decode prog_12_method_124_code 8 = .ok (.istore 6, 2) := F_MD_laysOrder_0.2.2.2.2.2.1
theorem d_MD_laysOrder_10 : decode prog_12_method_124_code 10 = .ok (.iconst 0, 1) := F_MD_laysOrder_0.2.2.2.2.2.2.1
theorem d_MD_laysOrder_11 : decode prog_12_method_124_code 11 = .ok (.istore 7, 2) := F_MD_laysOrder_0.2.2.2.2.2.2.2.1
theorem d_MD_laysOrder_13 : decode prog_12_method_124_code 13 = .ok (.iload 7, 2) := F_MD_laysOrder_0.2.2.2.2.2.2.2.2.1
theorem d_MD_laysOrder_15 : decode prog_12_method_124_code 15 = .ok (.iconst 4, 1) := F_MD_laysOrder_0.2.2.2.2.2.2.2.2.2.1
theorem d_MD_laysOrder_16 : decode prog_12_method_124_code 16 = .ok (.if_icmp .ge (184), 3) := F_MD_laysOrder_0.2.2.2.2.2.2.2.2.2.2.1
theorem d_MD_laysOrder_19 : decode prog_12_method_124_code 19 = .ok (.iload 5, 2) := F_MD_laysOrder_0.2.2.2.2.2.2.2.2.2.2.2.1
theorem d_MD_laysOrder_21 : decode prog_12_method_124_code 21 = .ok (.iload 6, 2) := F_MD_laysOrder_0.2.2.2.2.2.2.2.2.2.2.2.2.1
theorem d_MD_laysOrder_23 : decode prog_12_method_124_code 23 = .ok (.idiv, 1) := F_MD_laysOrder_0.2.2.2.2.2.2.2.2.2.2.2.2.2.1
theorem d_MD_laysOrder_24 : decode prog_12_method_124_code 24 = .ok (.istore 8, 2) := F_MD_laysOrder_0.2.2.2.2.2.2.2.2.2.2.2.2.2.2.1
theorem d_MD_laysOrder_26 : decode prog_12_method_124_code 26 = .ok (.iload 5, 2) := F_MD_laysOrder_0.2.2.2.2.2.2.2.2.2.2.2.2.2.2.2.1
theorem d_MD_laysOrder_28 : decode prog_12_method_124_code 28 = .ok (.iload 6, 2) := F_MD_laysOrder_0.2.2.2.2.2.2.2.2.2.2.2.2.2.2.2.2.1
theorem d_MD_laysOrder_30 : decode prog_12_method_124_code 30 = .ok (.irem, 1) := F_MD_laysOrder_0.2.2.2.2.2.2.2.2.2.2.2.2.2.2.2.2.2.1
theorem d_MD_laysOrder_31 : decode prog_12_method_124_code 31 = .ok (.istore 5, 2) := F_MD_laysOrder_0.2.2.2.2.2.2.2.2.2.2.2.2.2.2.2.2.2.2.1
theorem d_MD_laysOrder_33 : decode prog_12_method_124_code 33 = .ok (.iload 6, 2) := F_MD_laysOrder_0.2.2.2.2.2.2.2.2.2.2.2.2.2.2.2.2.2.2.2.1
theorem d_MD_laysOrder_35 : decode prog_12_method_124_code 35 = .ok (.iload 7, 2) := F_MD_laysOrder_0.2.2.2.2.2.2.2.2.2.2.2.2.2.2.2.2.2.2.2.2.1
theorem d_MD_laysOrder_37 : decode prog_12_method_124_code 37 = .ok (.iconst 3, 1) := F_MD_laysOrder_0.2.2.2.2.2.2.2.2.2.2.2.2.2.2.2.2.2.2.2.2.2.1
theorem d_MD_laysOrder_38 : decode prog_12_method_124_code 38 = .ok (.if_icmp .ne (7), 3) := F_MD_laysOrder_0.2.2.2.2.2.2.2.2.2.2.2.2.2.2.2.2.2.2.2.2.2.2.1
theorem d_MD_laysOrder_41 : decode prog_12_method_124_code 41 = .ok (.iconst 1, 1) := F_MD_laysOrder_0.2.2.2.2.2.2.2.2.2.2.2.2.2.2.2.2.2.2.2.2.2.2.2.1
theorem d_MD_laysOrder_42 : decode prog_12_method_124_code 42 = .ok (.goto (18), 3) := F_MD_laysOrder_0.2.2.2.2.2.2.2.2.2.2.2.2.2.2.2.2.2.2.2.2.2.2.2.2.1
theorem d_MD_laysOrder_45 : decode prog_12_method_124_code 45 = .ok (.iconst 3, 1) := F_MD_laysOrder_0.2.2.2.2.2.2.2.2.2.2.2.2.2.2.2.2.2.2.2.2.2.2.2.2.2.1
theorem d_MD_laysOrder_46 : decode prog_12_method_124_code 46 = .ok (.iload 7, 2) := F_MD_laysOrder_0.2.2.2.2.2.2.2.2.2.2.2.2.2.2.2.2.2.2.2.2.2.2.2.2.2.2.1
theorem d_MD_laysOrder_48 : decode prog_12_method_124_code 48 = .ok (.isub, 1) := F_MD_laysOrder_0.2.2.2.2.2.2.2.2.2.2.2.2.2.2.2.2.2.2.2.2.2.2.2.2.2.2.2.1
theorem d_MD_laysOrder_49 : decode prog_12_method_124_code 49 = .ok (.ifCond .le (10), 3) := F_MD_laysOrder_0.2.2.2.2.2.2.2.2.2.2.2.2.2.2.2.2.2.2.2.2.2.2.2.2.2.2.2.2.1
theorem d_MD_laysOrder_52 : decode prog_12_method_124_code 52 = .ok (.iconst 3, 1) := F_MD_laysOrder_0.2.2.2.2.2.2.2.2.2.2.2.2.2.2.2.2.2.2.2.2.2.2.2.2.2.2.2.2.2.1
theorem d_MD_laysOrder_53 : decode prog_12_method_124_code 53 = .ok (.iload 7, 2) := F_MD_laysOrder_0.2.2.2.2.2.2.2.2.2.2.2.2.2.2.2.2.2.2.2.2.2.2.2.2.2.2.2.2.2.2.1
theorem d_MD_laysOrder_55 : decode prog_12_method_124_code 55 = .ok (.isub, 1) := F_MD_laysOrder_0.2.2.2.2.2.2.2.2.2.2.2.2.2.2.2.2.2.2.2.2.2.2.2.2.2.2.2.2.2.2.2.1
theorem F_MD_laysOrder_56 : Jvm.Free.DS.Facts prog_12_method_124_code 56 [(.goto (4), 3), (.iconst 1, 1), (.idiv, 1), (.istore 6, 2), (.iconst 0, 1), (.istore 9, 2), (.iload 4, 2), (.iload 9, 2), (.ishr, 1), (.iconst 1, 1), (.iand, 1), (.iconst 1, 1), (.if_icmp .eq (8), 3), (.iload 8, 2), (.ifCond .le (30), 3), (.iload 8, 2), (.iload 4, 2), (.iload 9, 2), (.ishr, 1), (.iconst 1, 1), (.iand, 1), (.iconst 1, 1), (.if_icmp .ne (7), 3), (.iconst 0, 1), (.goto (4), 3), (.iconst 1, 1), (.isub, 1), (.istore 8, 2), (.iinc 9 (1), 3), (.goto (-40), 3), (.iload 4, 2), (.iconst 1, 1)] := Jvm.Free.DS.facts 56 _ (by decide +kernel) (by decide +kernel)
theorem d_MD_laysOrder_56 : decode prog_12_method_124_code 56 = .ok (.goto (4), 3) := F_MD_laysOrder_56.1
theorem d_MD_laysOrder_59 : decode prog_12_method_124_code 59 = .ok (.iconst 1, 1) := F_MD_laysOrder_56.2.1
theorem d_MD_laysOrder_60 : decode prog_12_method_124_code 60 = .ok (.idiv, 1) := F_MD_laysOrder_56.2.2.1
theorem d_MD_laysOrder_61 : decode prog_12_method_124_code 61 = .ok (.istore 6, 2) := F_MD_laysOrder_56.2.2.2.1
theorem d_MD_laysOrder_63 : decode prog_12_method_124_code 63 = .ok (.iconst 0, 1) := F_MD_laysOrder_56.2.2.2.2.1
theorem d_MD_laysOrder_64 : decode prog_12_method_124_code 64 = .ok (.istore 9, 2) := F_MD_laysOrder_56.2.2.2.2.2.1
theorem d_MD_laysOrder_66 : decode prog_12_method_124_code 66 = .ok (.iload 4, 2) := F_MD_laysOrder_56.2.2.2.2.2.2.1
theorem d_MD_laysOrder_68 : decode prog_12_method_124_code 68 = .ok (.iload 9, 2) := F_MD_laysOrder_56.2.2.2.2.2.2.2.1
theorem d_MD_laysOrder_70 : decode prog_12_method_124_code 70 = .ok (.ishr, 1) := F_MD_laysOrder_56.2.2.2.2.2.2.2.2.1
theorem d_MD_laysOrder_71 : decode prog_12_method_124_code 71 = .ok (.iconst 1, 1) := F_MD_laysOrder_56.2.2.2.2.2.2.2.2.2.1
theorem d_MD_laysOrder_72 : decode prog_12_method_124_code 72 = .ok (.iand, 1) := F_MD_laysOrder_56.2.2.2.2.2.2.2.2.2.2.1
theorem d_MD_laysOrder_73 : decode prog_12_method_124_code 73 = .ok (.iconst 1, 1) := F_MD_laysOrder_56.2.2.2.2.2.2.2.2.2.2.2.1
theorem d_MD_laysOrder_74 : decode prog_12_method_124_code 74 = .ok (.if_icmp .eq (8), 3) := F_MD_laysOrder_56.2.2.2.2.2.2.2.2.2.2.2.2.1
theorem d_MD_laysOrder_77 : decode prog_12_method_124_code 77 = .ok (.iload 8, 2) := F_MD_laysOrder_56.2.2.2.2.2.2.2.2.2.2.2.2.2.1
theorem d_MD_laysOrder_79 : decode prog_12_method_124_code 79 = .ok (.ifCond .le (30), 3) := F_MD_laysOrder_56.2.2.2.2.2.2.2.2.2.2.2.2.2.2.1
theorem d_MD_laysOrder_82 : decode prog_12_method_124_code 82 = .ok (.iload 8, 2) := F_MD_laysOrder_56.2.2.2.2.2.2.2.2.2.2.2.2.2.2.2.1
theorem d_MD_laysOrder_84 : decode prog_12_method_124_code 84 = .ok (.iload 4, 2) := F_MD_laysOrder_56.2.2.2.2.2.2.2.2.2.2.2.2.2.2.2.2.1
theorem d_MD_laysOrder_86 : decode prog_12_method_124_code 86 = .ok (.iload 9, 2) := F_MD_laysOrder_56.2.2.2.2.2.2.2.2.2.2.2.2.2.2.2.2.2.1
theorem d_MD_laysOrder_88 : decode prog_12_method_124_code 88 = .ok (.ishr, 1) := F_MD_laysOrder_56.2.2.2.2.2.2.2.2.2.2.2.2.2.2.2.2.2.2.1
theorem d_MD_laysOrder_89 : decode prog_12_method_124_code 89 = .ok (.iconst 1, 1) := F_MD_laysOrder_56.2.2.2.2.2.2.2.2.2.2.2.2.2.2.2.2.2.2.2.1
theorem d_MD_laysOrder_90 : decode prog_12_method_124_code 90 = .ok (.iand, 1) := F_MD_laysOrder_56.2.2.2.2.2.2.2.2.2.2.2.2.2.2.2.2.2.2.2.2.1
theorem d_MD_laysOrder_91 : decode prog_12_method_124_code 91 = .ok (.iconst 1, 1) := F_MD_laysOrder_56.2.2.2.2.2.2.2.2.2.2.2.2.2.2.2.2.2.2.2.2.2.1
theorem d_MD_laysOrder_92 : decode prog_12_method_124_code 92 = .ok (.if_icmp .ne (7), 3) := F_MD_laysOrder_56.2.2.2.2.2.2.2.2.2.2.2.2.2.2.2.2.2.2.2.2.2.2.1
theorem d_MD_laysOrder_95 : decode prog_12_method_124_code 95 = .ok (.iconst 0, 1) := F_MD_laysOrder_56.2.2.2.2.2.2.2.2.2.2.2.2.2.2.2.2.2.2.2.2.2.2.2.1
theorem d_MD_laysOrder_96 : decode prog_12_method_124_code 96 = .ok (.goto (4), 3) := F_MD_laysOrder_56.2.2.2.2.2.2.2.2.2.2.2.2.2.2.2.2.2.2.2.2.2.2.2.2.1
theorem d_MD_laysOrder_99 : decode prog_12_method_124_code 99 = .ok (.iconst 1, 1) := F_MD_laysOrder_56.2.2.2.2.2.2.2.2.2.2.2.2.2.2.2.2.2.2.2.2.2.2.2.2.2.1
theorem d_MD_laysOrder_100 : decode prog_12_method_124_code 100 = .ok (.isub, 1) := F_MD_laysOrder_56.2.2.2.2.2.2.2.2.2.2.2.2.2.2.2.2.2.2.2.2.2.2.2.2.2.2.1
theorem d_MD_laysOrder_101 : decode prog_12_method_124_code 101 = .ok (.istore 8, 2) := F_MD_laysOrder_56.2.2.2.2.2.2.2.2.2.2.2.2.2.2.2.2.2.2.2.2.2.2.2.2.2.2.2.1
theorem d_MD_laysOrder_103 : decode prog_12_method_124_code 103 = .ok (.iinc 9 (1), 3) := F_MD_laysOrder_56.2.2.2.2.2.2.2.2.2.2.2.2.2.2.2.2.2.2.2.2.2.2.2.2.2.2.2.2.1
theorem d_MD_laysOrder_106 : decode prog_12_method_124_code 106 = .ok (.goto (-40), 3) := F_MD_laysOrder_56.2.2.2.2.2.2.2.2.2.2.2.2.2.2.2.2.2.2.2.2.2.2.2.2.2.2.2.2.2.1
theorem d_MD_laysOrder_109 : decode prog_12_method_124_code 109 = .ok (.iload 4, 2) := F_MD_laysOrder_56.2.2.2.2.2.2.2.2.2.2.2.2.2.2.2.2.2.2.2.2.2.2.2.2.2.2.2.2.2.2.1
theorem d_MD_laysOrder_111 : decode prog_12_method_124_code 111 = .ok (.iconst 1, 1) := F_MD_laysOrder_56.2.2.2.2.2.2.2.2.2.2.2.2.2.2.2.2.2.2.2.2.2.2.2.2.2.2.2.2.2.2.2.1
theorem F_MD_laysOrder_112 : Jvm.Free.DS.Facts prog_12_method_124_code 112 [(.iload 9, 2), (.ishl, 1), (.ior, 1), (.istore 4, 2), (.iconst 0, 1), (.istore 10, 2), (.iload 10, 2), (.iconst 2, 1), (.if_icmp .ge (70), 3), (.aload_n 0, 1), (.getfield 56, 3), (.iconst 2, 1), (.iload 7, 2), (.imul, 1), (.iload 10, 2), (.iadd, 1), (.aload_n 0, 1), (.getfield 15, 3), (.bipush (8), 2), (.iload_n 1, 1), (.imul, 1), (.iconst 2, 1), (.iload 7, 2), (.imul, 1), (.iadd, 1), (.iload 10, 2), (.iadd, 1), (.iaload, 1), (.iastore, 1), (.aload_n 0, 1), (.getfield 56, 3), (.bipush (8), 2)] := Jvm.Free.DS.facts 112 _ (by decide +kernel) (by decide +kernel)
theorem d_MD_laysOrder_112 : decode prog_12_method_124_code 112 = .ok (.iload 9, 2) := F_MD_laysOrder_112.1
theorem d_MD_laysOrder_114 : decode prog_12_method_124_code 114 = .ok (.ishl, 1) := F_MD_laysOrder_112.2.1
theorem d_MD_laysOrder_115 : decode prog_12_method_124_code 115 = .ok (.ior, 1) := F_MD_laysOrder_112.2.2.1
theorem d_MD_laysOrder_116 : decode prog_12_method_124_code 116 = .ok (.istore 4, 2) := F_MD_laysOrder_112.2.2.2.1
theorem d_MD_laysOrder_118 : decode prog_12_method_124_code 118 = .ok (.iconst 0, 1) := F_MD_laysOrder_112.2.2.2.2.1
theorem d_MD_laysOrder_119 : decode prog_12_method_124_code 119 = .ok (.istore 10, 2) := F_MD_laysOrder_112.2.2.2.2.2.1
theorem d_MD_laysOrder_121 : decode prog_12_method_124_code 121 = .ok (.iload 10, 2) := F_MD_laysOrder_112.2.2.2.2.2.2.1
theorem d_MD_laysOrder_123 : decode prog_12_method_124_code 123 = .ok (.iconst 2, 1) := F_MD_laysOrder_112.2.2.2.2.2.2.2.1
theorem d_MD_laysOrder_124 : decode prog_12_method_124_code 124 = .ok (.if_icmp .ge (70), 3) := F_MD_laysOrder_112.2.2.2.2.2.2.2.2.1
theorem d_MD_laysOrder_127 : decode prog_12_method_124_code 127 = .ok (.aload_n 0, 1) := F_MD_laysOrder_112.2.2.2.2.2.2.2.2.2.1
theorem d_MD_laysOrder_128 : decode prog_12_method_124_code 128 = .ok (.getfield 56, 3) := F_MD_laysOrder_112.2.2.2.2.2.2.2.2.2.2.1
theorem d_MD_laysOrder_131 : decode prog_12_method_124_code 131 = .ok (.iconst 2, 1) := F_MD_laysOrder_112.2.2.2.2.2.2.2.2.2.2.2.1
theorem d_MD_laysOrder_132 : decode prog_12_method_124_code 132 = .ok (.iload 7, 2) := F_MD_laysOrder_112.2.2.2.2.2.2.2.2.2.2.2.2.1
theorem d_MD_laysOrder_134 : decode prog_12_method_124_code 134 = .ok (.imul, 1) := F_MD_laysOrder_112.2.2.2.2.2.2.2.2.2.2.2.2.2.1
theorem d_MD_laysOrder_135 : decode prog_12_method_124_code 135 = .ok (.iload 10, 2) := F_MD_laysOrder_112.2.2.2.2.2.2.2.2.2.2.2.2.2.2.1
theorem d_MD_laysOrder_137 : decode prog_12_method_124_code 137 = .ok (.iadd, 1) := F_MD_laysOrder_112.2.2.2.2.2.2.2.2.2.2.2.2.2.2.2.1
theorem d_MD_laysOrder_138 : decode prog_12_method_124_code 138 = .ok (.aload_n 0, 1) := F_MD_laysOrder_112.2.2.2.2.2.2.2.2.2.2.2.2.2.2.2.2.1
theorem d_MD_laysOrder_139 : decode prog_12_method_124_code 139 = .ok (.getfield 15, 3) := F_MD_laysOrder_112.2.2.2.2.2.2.2.2.2.2.2.2.2.2.2.2.2.1
theorem d_MD_laysOrder_142 : decode prog_12_method_124_code 142 = .ok (.bipush (8), 2) := F_MD_laysOrder_112.2.2.2.2.2.2.2.2.2.2.2.2.2.2.2.2.2.2.1
theorem d_MD_laysOrder_144 : decode prog_12_method_124_code 144 = .ok (.iload_n 1, 1) := F_MD_laysOrder_112.2.2.2.2.2.2.2.2.2.2.2.2.2.2.2.2.2.2.2.1
theorem d_MD_laysOrder_145 : decode prog_12_method_124_code 145 = .ok (.imul, 1) := F_MD_laysOrder_112.2.2.2.2.2.2.2.2.2.2.2.2.2.2.2.2.2.2.2.2.1
theorem d_MD_laysOrder_146 : decode prog_12_method_124_code 146 = .ok (.iconst 2, 1) := F_MD_laysOrder_112.2.2.2.2.2.2.2.2.2.2.2.2.2.2.2.2.2.2.2.2.2.1
theorem d_MD_laysOrder_147 : decode prog_12_method_124_code 147 = .ok (.iload 7, 2) := F_MD_laysOrder_112.2.2.2.2.2.2.2.2.2.2.2.2.2.2.2.2.2.2.2.2.2.2.1
theorem d_MD_laysOrder_149 : decode prog_12_method_124_code 149 = .ok (.imul, 1) := F_MD_laysOrder_112.2.2.2.2.2.2.2.2.2.2.2.2.2.2.2.2.2.2.2.2.2.2.2.1
theorem d_MD_laysOrder_150 : decode prog_12_method_124_code 150 = .ok (.iadd, 1) := F_MD_laysOrder_112.2.2.2.2.2.2.2.2.2.2.2.2.2.2.2.2.2.2.2.2.2.2.2.2.1
theorem d_MD_laysOrder_151 : decode prog_12_method_124_code 151 = .ok (.iload 10, 2) := F_MD_laysOrder_112.2.2.2.2.2.2.2.2.2.2.2.2.2.2.2.2.2.2.2.2.2.2.2.2.2.1
theorem d_MD_laysOrder_153 : decode prog_12_method_124_code 153 = .ok (.iadd, 1) := F_MD_laysOrder_112.2.2.2.2.2.2.2.2.2.2.2.2.2.2.2.2.2.2.2.2.2.2.2.2.2.2.1
theorem d_MD_laysOrder_154 : decode prog_12_method_124_code 154 = .ok (.iaload, 1) := F_MD_laysOrder_112.2.2.2.2.2.2.2.2.2.2.2.2.2.2.2.2.2.2.2.2.2.2.2.2.2.2.2.1
theorem d_MD_laysOrder_155 : decode prog_12_method_124_code 155 = .ok (.iastore, 1) := F_MD_laysOrder_112.2.2.2.2.2.2.2.2.2.2.2.2.2.2.2.2.2.2.2.2.2.2.2.2.2.2.2.2.1
theorem d_MD_laysOrder_156 : decode prog_12_method_124_code 156 = .ok (.aload_n 0, 1) := F_MD_laysOrder_112.2.2.2.2.2.2.2.2.2.2.2.2.2.2.2.2.2.2.2.2.2.2.2.2.2.2.2.2.2.1
theorem d_MD_laysOrder_157 : decode prog_12_method_124_code 157 = .ok (.getfield 56, 3) := F_MD_laysOrder_112.2.2.2.2.2.2.2.2.2.2.2.2.2.2.2.2.2.2.2.2.2.2.2.2.2.2.2.2.2.2.1
theorem d_MD_laysOrder_160 : decode prog_12_method_124_code 160 = .ok (.bipush (8), 2) := F_MD_laysOrder_112.2.2.2.2.2.2.2.2.2.2.2.2.2.2.2.2.2.2.2.2.2.2.2.2.2.2.2.2.2.2.2.1
theorem F_MD_laysOrder_162 : Jvm.Free.DS.Facts prog_12_method_124_code 162 [(.iconst 2, 1), (.iload 7, 2), (.imul, 1), (.iadd, 1), (.iload 10, 2), (.iadd, 1), (.aload_n 0, 1), (.getfield 15, 3), (.bipush (8), 2), (.iload_n 2, 1), (.imul, 1), (.iconst 2, 1), (.iload 9, 2), (.imul, 1), (.iadd, 1), (.iload 10, 2), (.iadd, 1), (.iaload, 1), (.iastore, 1), (.iinc 10 (1), 3), (.goto (-70), 3), (.iinc 7 (1), 3), (.goto (-184), 3), (.aload_n 0, 1), (.aload_n 0, 1), (.getfield 56, 3), (.iconst 0, 1), (.iconst 1, 1), (.invokevirtual 168, 3), (.return_, 1)] := Jvm.Free.DS.facts 162 _ (by decide +kernel) (by decide +kernel)
theorem d_MD_laysOrder_162 : decode prog_12_method_124_code 162 = .ok (.iconst 2, 1) := F_MD_laysOrder_162.1
theorem d_MD_laysOrder_163 : decode prog_12_method_124_code 163 = .ok (.iload 7, 2) := F_MD_laysOrder_162.2.1
theorem d_MD_laysOrder_165 : decode prog_12_method_124_code 165 = .ok (.imul, 1) := F_MD_laysOrder_162.2.2.1
theorem d_MD_laysOrder_166 : decode prog_12_method_124_code 166 = .ok (.iadd, 1) := F_MD_laysOrder_162.2.2.2.1
theorem d_MD_laysOrder_167 : decode prog_12_method_124_code 167 = .ok (.iload 10, 2) := F_MD_laysOrder_162.2.2.2.2.1
theorem d_MD_laysOrder_169 : decode prog_12_method_124_code 169 = .ok (.iadd, 1) := F_MD_laysOrder_162.2.2.2.2.2.1
theorem d_MD_laysOrder_170 : decode prog_12_method_124_code 170 = .ok (.aload_n 0, 1) := F_MD_laysOrder_162.2.2.2.2.2.2.1
theorem d_MD_laysOrder_171 : decode prog_12_method_124_code 171 = .ok (.getfield 15, 3) := F_MD_laysOrder_162.2.2.2.2.2.2.2.1
theorem d_MD_laysOrder_174 : decode prog_12_method_124_code 174 = .ok (.bipush (8), 2) := F_MD_laysOrder_162.2.2.2.2.2.2.2.2.1
theorem d_MD_laysOrder_176 : decode prog_12_method_124_code 176 = .ok (.iload_n 2, 1) := F_MD_laysOrder_162.2.2.2.2.2.2.2.2.2.1
theorem d_MD_laysOrder_177 : decode prog_12_method_124_code 177 = .ok (.imul, 1) := F_MD_laysOrder_162.2.2.2.2.2.2.2.2.2.2.1
theorem d_MD_laysOrder_178 : decode prog_12_method_124_code 178 = .ok (.iconst 2, 1) := F_MD_laysOrder_162.2.2.2.2.2.2.2.2.2.2.2.1
theorem d_MD_laysOrder_179 : decode prog_12_method_124_code 179 = .ok (.iload 9, 2) := F_MD_laysOrder_162.2.2.2.2.2.2.2.2.2.2.2.2.1
theorem d_MD_laysOrder_181 : decode prog_12_method_124_code 181 = .ok (.imul, 1) := F_MD_laysOrder_162.2.2.2.2.2.2.2.2.2.2.2.2.2.1
theorem d_MD_laysOrder_182 : decode prog_12_method_124_code 182 = .ok (.iadd, 1) := F_MD_laysOrder_162.2.2.2.2.2.2.2.2.2.2.2.2.2.2.1
theorem d_MD_laysOrder_183 : decode prog_12_method_124_code 183 = .ok (.iload 10, 2) := F_MD_laysOrder_162.2.2.2.2.2.2.2.2.2.2.2.2.2.2.2.1
theorem d_MD_laysOrder_185 : decode prog_12_method_124_code 185 = .ok (.iadd, 1) := F_MD_laysOrder_162.2.2.2.2.2.2.2.2.2.2.2.2.2.2.2.2.1
theorem d_MD_laysOrder_186 : decode prog_12_method_124_code 186 = .ok (.iaload, 1) := F_MD_laysOrder_162.2.2.2.2.2.2.2.2.2.2.2.2.2.2.2.2.2.1
theorem d_MD_laysOrder_187 : decode prog_12_method_124_code 187 = .ok (.iastore, 1) := F_MD_laysOrder_162.2.2.2.2.2.2.2.2.2.2.2.2.2.2.2.2.2.2.1
theorem d_MD_laysOrder_188 : decode prog_12_method_124_code 188 = .ok (.iinc 10 (1), 3) := F_MD_laysOrder_162.2.2.2.2.2.2.2.2.2.2.2.2.2.2.2.2.2.2.2.1
theorem d_MD_laysOrder_191 : decode prog_12_method_124_code 191 = .ok (.goto (-70), 3) := F_MD_laysOrder_162.2.2.2.2.2.2.2.2.2.2.2.2.2.2.2.2.2.2.2.2.1
theorem d_MD_laysOrder_194 : decode prog_12_method_124_code 194 = .ok (.iinc 7 (1), 3) := F_MD_laysOrder_162.2.2.2.2.2.2.2.2.2.2.2.2.2.2.2.2.2.2.2.2.2.1
theorem d_MD_laysOrder_197 : decode prog_12_method_124_code 197 = .ok (.goto (-184), 3) := F_MD_laysOrder_162.2.2.2.2.2.2.2.2.2.2.2.2.2.2.2.2.2.2.2.2.2.2.1
theorem d_MD_laysOrder_200 : decode prog_12_method_124_code 200 = .ok (.aload_n 0, 1) := F_MD_laysOrder_162.2.2.2.2.2.2.2.2.2.2.2.2.2.2.2.2.2.2.2.2.2.2.2.1
theorem d_MD_laysOrder_201 : decode prog_12_method_124_code 201 = .ok (.aload_n 0, 1) := F_MD_laysOrder_162.2.2.2.2.2.2.2.2.2.2.2.2.2.2.2.2.2.2.2.2.2.2.2.2.1
theorem d_MD_laysOrder_202 : decode prog_12_method_124_code 202 = .ok (.getfield 56, 3) := F_MD_laysOrder_162.2.2.2.2.2.2.2.2.2.2.2.2.2.2.2.2.2.2.2.2.2.2.2.2.2.1
theorem d_MD_laysOrder_205 : decode prog_12_method_124_code 205 = .ok (.iconst 0, 1) := F_MD_laysOrder_162.2.2.2.2.2.2.2.2.2.2.2.2.2.2.2.2.2.2.2.2.2.2.2.2.2.2.1
theorem d_MD_laysOrder_206 : decode prog_12_method_124_code 206 = .ok (.iconst 1, 1) := F_MD_laysOrder_162.2.2.2.2.2.2.2.2.2.2.2.2.2.2.2.2.2.2.2.2.2.2.2.2.2.2.2.1
theorem d_MD_laysOrder_207 : decode prog_12_method_124_code 207 = .ok (.invokevirtual 168, 3) := F_MD_laysOrder_162.2.2.2.2.2.2.2.2.2.2.2.2.2.2.2.2.2.2.2.2.2.2.2.2.2.2.2.2.1
theorem d_MD_laysOrder_210 : decode prog_12_method_124_code 210 = .ok (.return_, 1) := F_MD_laysOrder_162.2.2.2.2.2.2.2.2.2.2.2.2.2.2.2.2.2.2.2.2.2.2.2.2.2.2.2.2.2.1
theorem F_MD_symmetry_0 : Jvm.Free.DS.Facts prog_12_method_126_code 0 [(.aload_n 0, 1), (.iconst 0, 1), (.putfield 74, 3), (.aload_n 0, 1), (.iload_n 1, 1), (.invokevirtual 238, 3), (.ifCond .eq (13), 3), (.iload_n 2, 1), (.ifCond .lt (9), 3), (.iload_n 2, 1), (.bipush (23), 2), (.if_icmp .le (5), 3), (.iconst (-1), 1), (.ireturn, 1), (.aload_n 0, 1), (.iload_n 1, 1), (.iload_n 1, 1), (.iload_n 2, 1), (.invokevirtual 415, 3), (.aload_n 0, 1), (.invokevirtual 271, 3), (.ireturn, 1)] := Jvm.Free.DS.facts 0 _ (by decide +kernel) (by decide +kernel)
theorem d_MD_symmetry_0 : decode prog_12_method_126_code 0 = .ok (.aload_n 0, 1) := F_MD_symmetry_0.1
theorem d_MD_symmetry_1 : decode prog_12_method_126_code 1 = .ok (.iconst 0, 1) := F_MD_symmetry_0.2.1
theorem d_MD_symmetry_2 : decode prog_12_method_126_code 2 = .ok (.putfield 74, 3) := F_MD_symmetry_0.2.2.1
theorem d_MD_symmetry_5 : decode prog_12_method_126_code 5 = .ok (.aload_n 0, 1) := F_MD_symmetry_0.2.2.2.1
theorem d_MD_symmetry_6 : decode prog_12_method_126_code 6 = .ok (.iload_n 1, 1) := F_MD_symmetry_0.2.2.2.2.1
theorem d_MD_symmetry_7 : decode prog_12_method_126_code 7 = .ok (.invokevirtual 238, 3) := F_MD_symmetry_0.2.2.2.2.2.1
theorem d_MD_symmetry_10 : decode prog_12_method_126_code 10 = .ok (.ifCond .eq (13), 3) := F_MD_symmetry_0.2.2.2.2.2.2.1
theorem d_MD_symmetry_13 : decode prog_12_method_126_code 13 = .ok (.iload_n 2, 1) := F_MD_symmetry_0.2.2.2.2.2.2.2.1
theorem d_MD_symmetry_14 : decode prog_12_method_126_code 14 = .ok (.ifCond .lt (9), 3) := F_MD_symmetry_0.2.2.2.2.2.2.2.2.1
theorem d_MD_symmetry_17 : decode prog_12_method_126_code 17 = .ok (.iload_n 2, 1) := F_MD_symmetry_0.2.2.2.2.2.2.2.2.2.1
theorem d_MD_symmetry_18 : decode prog_12_method_126_code 18 = .ok (.bipush (23), 2) := F_MD_symmetry_0.2.2.2.2.2.2.2.2.2.2.1
theorem d_MD_symmetry_20 : decode prog_12_method_126_code 20 = .ok (.if_icmp .le (5), 3) := F_MD_symmetry_0.2.2.2.2.2.2.2.2.2.2.2.1
theorem d_MD_symmetry_23 : decode prog_12_method_126_code 23 = .ok (.iconst (-1), 1) := F_MD_symmetry_0.2.2.2.2.2.2.2.2.2.2.2.2.1
theorem d_MD_symmetry_24 : decode prog_12_method_126_code 24 = .ok (.ireturn, 1) := F_MD_symmetry_0.2.2.2.2.2.2.2.2.2.2.2.2.2.1
theorem d_MD_symmetry_25 : decode prog_12_method_126_code 25 = .ok (.aload_n 0, 1) := F_MD_symmetry_0.2.2.2.2.2.2.2.2.2.2.2.2.2.2.1
theorem d_MD_symmetry_26 : decode prog_12_method_126_code 26 = .ok (.iload_n 1, 1) := F_MD_symmetry_0.2.2.2.2.2.2.2.2.2.2.2.2.2.2.2.1
theorem d_MD_symmetry_27 : decode prog_12_method_126_code 27 = .ok (.iload_n 1, 1) := F_MD_symmetry_0.2.2.2.2.2.2.2.2.2.2.2.2.2.2.2.2.1
theorem d_MD_symmetry_28 : decode prog_12_method_126_code 28 = .ok (.iload_n 2, 1) := F_MD_symmetry_0.2.2.2.2.2.2.2.2.2.2.2.2.2.2.2.2.2.1
theorem d_MD_symmetry_29 : decode prog_12_method_126_code 29 = .ok (.invokevirtual 415, 3) := F_MD_symmetry_0.2.2.2.2.2.2.2.2.2.2.2.2.2.2.2.2.2.2.1
theorem d_MD_symmetry_32 : decode prog_12_method_126_code 32 = .ok (.aload_n 0, 1) := F_MD_symmetry_0.2.2.2.2.2.2.2.2.2.2.2.2.2.2.2.2.2.2.2.1
theorem d_MD_symmetry_33 : decode prog_12_method_126_code 33 = .ok (.invokevirtual 271, 3) := F_MD_symmetry_0.2.2.2.2.2.2.2.2.2.2.2.2.2.2.2.2.2.2.2.2.1
theorem d_MD_symmetry_36 : decode prog_12_method_126_code 36 = .ok (.ireturn, 1) := F_MD_symmetry_0.2.2.2.2.2.2.2.2.2.2.2.2.2.2.2.2.2.2.2.2.2.1
theorem F_MD_word_0 : Jvm.Free.DS.Facts prog_12_method_130_code 0 [(.aload_n 0, 1), (.iconst 0, 1), (.putfield 74, 3), (.aload_n 0, 1), (.iload_n 1, 1), (.invokevirtual 241, 3), (.ifCond .eq (8), 3), (.iload_n 2, 1), (.iconst (-1), 1), (.if_icmp .ge (5), 3), (.iconst (-1), 1), (.ireturn, 1), (.aload_n 0, 1), (.iload_n 1, 1), (.invokevirtual 429, 3), (.aload_n 0, 1), (.getfield 419, 3), (.ifCond .ne (6), 3), (.bipush (-2), 2), (.ireturn, 1), (.iload_n 2, 1), (.iconst (-1), 1), (.if_icmp .ne (10), 3), (.aload_n 0, 1), (.getfield 419, 3), (.goto (22), 3), (.iload_n 2, 1), (.aload_n 0, 1), (.getfield 419, 3), (.if_icmp .ge (12), 3), (.aload_n 0, 1), (.getfield 62, 3)] := Jvm.Free.DS.facts 0 _ (by decide +kernel) (by decide +kernel)
theorem d_MD_word_0 : decode prog_12_method_130_code 0 = .ok (.aload_n 0, 1) := F_MD_word_0.1
theorem d_MD_word_1 : decode prog_12_method_130_code 1 = .ok (.iconst 0, 1) := F_MD_word_0.2.1
theorem d_MD_word_2 : decode prog_12_method_130_code 2 = .ok (.putfield 74, 3) := F_MD_word_0.2.2.1
theorem d_MD_word_5 : decode prog_12_method_130_code 5 = .ok (.aload_n 0, 1) := F_MD_word_0.2.2.2.1
theorem d_MD_word_6 : decode prog_12_method_130_code 6 = .ok (.iload_n 1, 1) := F_MD_word_0.2.2.2.2.1
theorem d_MD_word_7 : decode prog_12_method_130_code 7 = .ok (.invokevirtual 241, 3) := F_MD_word_0.2.2.2.2.2.1
theorem d_MD_word_10 : decode prog_12_method_130_code 10 = .ok (.ifCond .eq (8), 3) := F_MD_word_0.2.2.2.2.2.2.1
theorem d_MD_word_13 : decode prog_12_method_130_code 13 = .ok (.iload_n 2, 1) := F_MD_word_0.2.2.2.2.2.2.2.1
theorem d_MD_word_14 : decode prog_12_method_130_code 14 = .ok (.iconst (-1), 1) := F_MD_word_0.2.2.2.2.2.2.2.2.1
theorem d_MD_word_15 : decode prog_12_method_130_code 15 = .ok (.if_icmp .ge (5), 3) := F_MD_word_0.2.2.2.2.2.2.2.2.2.1
theorem d_MD_word_18 : decode prog_12_method_130_code 18 = .ok (.iconst (-1), 1) := F_MD_word_0.2.2.2.2.2.2.2.2.2.2.1
theorem d_MD_word_19 : decode prog_12_method_130_code 19 = .ok (.ireturn, 1) := F_MD_word_0.2.2.2.2.2.2.2.2.2.2.2.1
theorem d_MD_word_20 : decode prog_12_method_130_code 20 = .ok (.aload_n 0, 1) := F_MD_word_0.2.2.2.2.2.2.2.2.2.2.2.2.1
theorem d_MD_word_21 : decode prog_12_method_130_code 21 = .ok (.iload_n 1, 1) := F_MD_word_0.2.2.2.2.2.2.2.2.2.2.2.2.2.1
theorem d_MD_word_22 : decode prog_12_method_130_code 22 = .ok (.invokevirtual 429, 3) := F_MD_word_0.2.2.2.2.2.2.2.2.2.2.2.2.2.2.1
theorem d_MD_word_25 : decode prog_12_method_130_code 25 = .ok (.aload_n 0, 1) := F_MD_word_0.2.2.2.2.2.2.2.2.2.2.2.2.2.2.2.1
theorem d_MD_word_26 : decode prog_12_method_130_code 26 = .ok (.getfield 419, 3) := F_MD_word_0.2.2.2.2.2.2.2.2.2.2.2.2.2.2.2.2.1
theorem d_MD_word_29 : decode prog_12_method_130_code 29 = .ok (.ifCond .ne (6), 3) := F_MD_word_0.2.2.2.2.2.2.2.2.2.2.2.2.2.2.2.2.2.1
theorem d_MD_word_32 : decode prog_12_method_130_code 32 = .ok (.bipush (-2), 2) := F_MD_word_0.2.2.2.2.2.2.2.2.2.2.2.2.2.2.2.2.2.2.1
theorem d_MD_word_34 : decode prog_12_method_130_code 34 = .ok (.ireturn, 1) := F_MD_word_0.2.2.2.2.2.2.2.2.2.2.2.2.2.2.2.2.2.2.2.1
theorem d_MD_word_35 : decode prog_12_method_130_code 35 = .ok (.iload_n 2, 1) := F_MD_word_0.2.2.2.2.2.2.2.2.2.2.2.2.2.2.2.2.2.2.2.2.1
theorem d_MD_word_36 : decode prog_12_method_130_code 36 = .ok (.iconst (-1), 1) := F_MD_word_0.2.2.2.2.2.2.2.2.2.2.2.2.2.2.2.2.2.2.2.2.2.1
theorem d_MD_word_37 : decode prog_12_method_130_code 37 = .ok (.if_icmp .ne (10), 3) := F_MD_word_0.2.2.2.2.2.2.2.2.2.2.2.2.2.2.2.2.2.2.2.2.2.2.1
theorem d_MD_word_40 : decode prog_12_method_130_code 40 = .ok (.aload_n 0, 1) := F_MD_word_0.2.2.2.2.2.2.2.2.2.2.2.2.2.2.2.2.2.2.2.2.2.2.2.1
theorem d_MD_word_41 : decode prog_12_method_130_code 41 = .ok (.getfield 419, 3) := F_MD_word_0.2.2.2.2.2.2.2.2.2.2.2.2.2.2.2.2.2.2.2.2.2.2.2.2.1
theorem d_MD_word_44 : decode prog_12_method_130_code 44 = .ok (.goto (22), 3) := F_MD_word_0.2.2.2.2.2.2.2.2.2.2.2.2.2.2.2.2.2.2.2.2.2.2.2.2.2.1
theorem d_MD_word_47 : decode prog_12_method_130_code 47 = .ok (.iload_n 2, 1) := F_MD_word_0.2.2.2.2.2.2.2.2.2.2.2.2.2.2.2.2.2.2.2.2.2.2.2.2.2.2.1
theorem d_MD_word_48 : decode prog_12_method_130_code 48 = .ok (.aload_n 0, 1) := F_MD_word_0.2.2.2.2.2.2.2.2.2.2.2.2.2.2.2.2.2.2.2.2.2.2.2.2.2.2.2.1
theorem d_MD_word_49 : decode prog_12_method_130_code 49 = .ok (.getfield 419, 3) := F_MD_word_0.2.2.2.2.2.2.2.2.2.2.2.2.2.2.2.2.2.2.2.2.2.2.2.2.2.2.2.2.1
theorem d_MD_word_52 : decode prog_12_method_130_code 52 = .ok (.if_icmp .ge (12), 3) := F_MD_word_0.2.2.2.2.2.2.2.2.2.2.2.2.2.2.2.2.2.2.2.2.2.2.2.2.2.2.2.2.2.1
theorem d_MD_word_55 : decode prog_12_method_130_code 55 = .ok (.aload_n 0, 1) := F_MD_word_0.2.2.2.2.2.2.2.2.2.2.2.2.2.2.2.2.2.2.2.2.2.2.2.2.2.2.2.2.2.2.1
theorem d_MD_word_56 : decode prog_12_method_130_code 56 = .ok (.getfield 62, 3) := F_MD_word_0.2.2.2.2.2.2.2.2.2.2.2.2.2.2.2.2.2.2.2.2.2.2.2.2.2.2.2.2.2.2.2.1
theorem F_MD_word_59 : Jvm.Free.DS.Facts prog_12_method_130_code 59 [(.iload_n 2, 1), (.iaload, 1), (.goto (5), 3), (.bipush (-2), 2), (.ireturn, 1)] := Jvm.Free.DS.facts 59 _ (by decide +kernel) (by decide +kernel)
theorem d_MD_word_59 : decode prog_12_method_130_code 59 = .ok (.iload_n 2, 1) := F_MD_word_59.1
theorem d_MD_word_60 : decode prog_12_method_130_code 60 = .ok (.iaload, 1) := F_MD_word_59.2.1
theorem d_MD_word_61 : decode prog_12_method_130_code 61 = .ok (.goto (5), 3) := F_MD_word_59.2.2.1
theorem d_MD_word_64 : decode prog_12_method_130_code 64 = .ok (.bipush (-2), 2) := F_MD_word_59.2.2.2.1
theorem d_MD_word_66 : decode prog_12_method_130_code 66 = .ok (.ireturn, 1) := F_MD_word_59.2.2.2.2.1
theorem F_MD_seeksRow_0 : Jvm.Free.DS.Facts prog_12_method_128_code 0 [(.aload_n 0, 1), (.iconst 0, 1), (.putfield 419, 3), (.aload_n 0, 1), (.getfield 21, 3), (.sipush (168), 3), (.laload, 1), (.l2i, 1), (.istore_n 2, 1), (.iconst 0, 1), (.istore_n 3, 1), (.iload_n 3, 1), (.iload_n 2, 1), (.if_icmp .ge (46), 3), (.aload_n 0, 1), (.getfield 419, 3), (.ifCond .ne (39), 3), (.aload_n 0, 1), (.aload_n 0, 1), (.getfield 41, 3), (.iload_n 3, 1), (.invokevirtual 274, 3), (.iload_n 3, 1), (.iload_n 1, 1), (.if_icmp .eq (19), 3), (.aload_n 0, 1), (.iload_n 1, 1), (.invokevirtual 331, 3), (.ifCond .eq (11), 3), (.aload_n 0, 1), (.iconst 1, 1), (.iload_n 3, 1)] := Jvm.Free.DS.facts 0 _ (by decide +kernel) (by decide +kernel)
theorem d_MD_seeksRow_0 : decode prog_12_method_128_code 0 = .ok (.aload_n 0, 1) := F_MD_seeksRow_0.1
theorem d_MD_seeksRow_1 : decode prog_12_method_128_code 1 = .ok (.iconst 0, 1) := F_MD_seeksRow_0.2.1
theorem d_MD_seeksRow_2 : decode prog_12_method_128_code 2 = .ok (.putfield 419, 3) := F_MD_seeksRow_0.2.2.1
theorem d_MD_seeksRow_5 : decode prog_12_method_128_code 5 = .ok (.aload_n 0, 1) := F_MD_seeksRow_0.2.2.2.1
theorem d_MD_seeksRow_6 : decode prog_12_method_128_code 6 = .ok (.getfield 21, 3) := F_MD_seeksRow_0.2.2.2.2.1
theorem d_MD_seeksRow_9 : decode prog_12_method_128_code 9 = .ok (.sipush (168), 3) := F_MD_seeksRow_0.2.2.2.2.2.1
theorem d_MD_seeksRow_12 : decode prog_12_method_128_code 12 = .ok (.laload, 1) := F_MD_seeksRow_0.2.2.2.2.2.2.1
theorem d_MD_seeksRow_13 : decode prog_12_method_128_code 13 = .ok (.l2i, 1) := F_MD_seeksRow_0.2.2.2.2.2.2.2.1
theorem d_MD_seeksRow_14 : decode prog_12_method_128_code 14 = .ok (.istore_n 2, 1) := F_MD_seeksRow_0.2.2.2.2.2.2.2.2.1
theorem d_MD_seeksRow_15 : decode prog_12_method_128_code 15 = .ok (.iconst 0, 1) := F_MD_seeksRow_0.2.2.2.2.2.2.2.2.2.1
theorem d_MD_seeksRow_16 : decode prog_12_method_128_code 16 = .ok (.istore_n 3, 1) := F_MD_seeksRow_0.2.2.2.2.2.2.2.2.2.2.1
theorem d_MD_seeksRow_17 : decode prog_12_method_128_code 17 = .ok (.iload_n 3, 1) := F_MD_seeksRow_0.2.2.2.2.2.2.2.2.2.2.2.1
theorem d_MD_seeksRow_18 : decode prog_12_method_128_code 18 = .ok (.iload_n 2, 1) := F_MD_seeksRow_0.2.2.2.2.2.2.2.2.2.2.2.2.1
theorem d_MD_seeksRow_19 : decode prog_12_method_128_code 19 = .ok (.if_icmp .ge (46), 3) := F_MD_seeksRow_0.2.2.2.2.2.2.2.2.2.2.2.2.2.1
theorem d_MD_seeksRow_22 : decode prog_12_method_128_code 22 = .ok (.aload_n 0, 1) := F_MD_seeksRow_0.2.2.2.2.2.2.2.2.2.2.2.2.2.2.1
theorem d_MD_seeksRow_23 : decode prog_12_method_128_code 23 = .ok (.getfield 419, 3) := F_MD_seeksRow_0.2.2.2.2.2.2.2.2.2.2.2.2.2.2.2.1
theorem d_MD_seeksRow_26 : decode prog_12_method_128_code 26 = .ok (.ifCond .ne (39), 3) := F_MD_seeksRow_0.2.2.2.2.2.2.2.2.2.2.2.2.2.2.2.2.1
theorem d_MD_seeksRow_29 : decode prog_12_method_128_code 29 = .ok (.aload_n 0, 1) := F_MD_seeksRow_0.2.2.2.2.2.2.2.2.2.2.2.2.2.2.2.2.2.1
theorem d_MD_seeksRow_30 : decode prog_12_method_128_code 30 = .ok (.aload_n 0, 1) := F_MD_seeksRow_0.2.2.2.2.2.2.2.2.2.2.2.2.2.2.2.2.2.2.1
theorem d_MD_seeksRow_31 : decode prog_12_method_128_code 31 = .ok (.getfield 41, 3) := F_MD_seeksRow_0.2.2.2.2.2.2.2.2.2.2.2.2.2.2.2.2.2.2.2.1
theorem d_MD_seeksRow_34 : decode prog_12_method_128_code 34 = .ok (.iload_n 3, 1) := F_MD_seeksRow_0.2.2.2.2.2.2.2.2.2.2.2.2.2.2.2.2.2.2.2.2.1
theorem d_MD_seeksRow_35 : decode prog_12_method_128_code 35 = .ok (.invokevirtual 274, 3) := F_MD_seeksRow_0.2.2.2.2.2.2.2.2.2.2.2.2.2.2.2.2.2.2.2.2.2.1
theorem d_MD_seeksRow_38 : decode prog_12_method_128_code 38 = .ok (.iload_n 3, 1) := F_MD_seeksRow_0.2.2.2.2.2.2.2.2.2.2.2.2.2.2.2.2.2.2.2.2.2.2.1
theorem d_MD_seeksRow_39 : decode prog_12_method_128_code 39 = .ok (.iload_n 1, 1) := F_MD_seeksRow_0.2.2.2.2.2.2.2.2.2.2.2.2.2.2.2.2.2.2.2.2.2.2.2.1
theorem d_MD_seeksRow_40 : decode prog_12_method_128_code 40 = .ok (.if_icmp .eq (19), 3) := F_MD_seeksRow_0.2.2.2.2.2.2.2.2.2.2.2.2.2.2.2.2.2.2.2.2.2.2.2.2.1
theorem d_MD_seeksRow_43 : decode prog_12_method_128_code 43 = .ok (.aload_n 0, 1) := F_MD_seeksRow_0.2.2.2.2.2.2.2.2.2.2.2.2.2.2.2.2.2.2.2.2.2.2.2.2.2.1
theorem d_MD_seeksRow_44 : decode prog_12_method_128_code 44 = .ok (.iload_n 1, 1) := F_MD_seeksRow_0.2.2.2.2.2.2.2.2.2.2.2.2.2.2.2.2.2.2.2.2.2.2.2.2.2.2.1
theorem d_MD_seeksRow_45 : decode prog_12_method_128_code 45 = .ok (.invokevirtual 331, 3) := F_MD_seeksRow_0.2.2.2.2.2.2.2.2.2.2.2.2.2.2.2.2.2.2.2.2.2.2.2.2.2.2.2.1
theorem d_MD_seeksRow_48 : decode prog_12_method_128_code 48 = .ok (.ifCond .eq (11), 3) := F_MD_seeksRow_0.2.2.2.2.2.2.2.2.2.2.2.2.2.2.2.2.2.2.2.2.2.2.2.2.2.2.2.2.1
theorem d_MD_seeksRow_51 : decode prog_12_method_128_code 51 = .ok (.aload_n 0, 1) := F_MD_seeksRow_0.2.2.2.2.2.2.2.2.2.2.2.2.2.2.2.2.2.2.2.2.2.2.2.2.2.2.2.2.2.1
theorem d_MD_seeksRow_52 : decode prog_12_method_128_code 52 = .ok (.iconst 1, 1) := F_MD_seeksRow_0.2.2.2.2.2.2.2.2.2.2.2.2.2.2.2.2.2.2.2.2.2.2.2.2.2.2.2.2.2.2.1
theorem d_MD_seeksRow_53 : decode prog_12_method_128_code 53 = .ok (.iload_n 3, 1) := F_MD_seeksRow_0.2.2.2.2.2.2.2.2.2.2.2.2.2.2.2.2.2.2.2.2.2.2.2.2.2.2.2.2.2.2.2.1
theorem F_MD_seeksRow_54 : Jvm.Free.DS.Facts prog_12_method_128_code 54 [(.iconst 0, 1), (.iconst 0, 1), (.invokevirtual 422, 3), (.iinc 3 (1), 3), (.goto (-45), 3), (.iconst 0, 1), (.istore_n 3, 1), (.iload_n 3, 1), (.iload_n 2, 1), (.if_icmp .ge (76), 3), (.aload_n 0, 1), (.getfield 419, 3), (.ifCond .ne (69), 3), (.iconst 0, 1), (.istore 4, 2), (.iload 4, 2), (.iload_n 2, 1), (.if_icmp .ge (54), 3), (.aload_n 0, 1), (.getfield 419, 3), (.ifCond .ne (47), 3), (.iload_n 3, 1), (.iload_n 1, 1), (.if_icmp .eq (42), 3), (.iload 4, 2), (.iload_n 1, 1), (.if_icmp .ne (6), 3), (.goto (27), 3), (.aload_n 0, 1), (.iload_n 3, 1), (.iload 4, 2), (.invokevirtual 277, 3)] := Jvm.Free.DS.facts 54 _ (by decide +kernel) (by decide +kernel)
theorem d_MD_seeksRow_54 : decode prog_12_method_128_code 54 = .ok (.iconst 0, 1) := F_MD_seeksRow_54.1
theorem d_MD_seeksRow_55 : decode prog_12_method_128_code 55 = .ok (.iconst 0, 1) := F_MD_seeksRow_54.2.1
theorem d_MD_seeksRow_56 : decode prog_12_method_128_code 56 = .ok (.invokevirtual 422, 3) := F_MD_seeksRow_54.2.2.1
theorem d_MD_seeksRow_59 : decode prog_12_method_128_code 59 = .ok (.iinc 3 (1), 3) := F_MD_seeksRow_54.2.2.2.1
theorem d_MD_seeksRow_62 : decode prog_12_method_128_code 62 = .ok (.goto (-45), 3) := F_MD_seeksRow_54.2.2.2.2.1
theorem d_MD_seeksRow_65 : decode prog_12_method_128_code 65 = .ok (.iconst 0, 1) := F_MD_seeksRow_54.2.2.2.2.2.1
theorem d_MD_seeksRow_66 : decode prog_12_method_128_code 66 = .ok (.istore_n 3, 1) := F_MD_seeksRow_54.2.2.2.2.2.2.1
theorem d_MD_seeksRow_67 : decode prog_12_method_128_code 67 = .ok (.iload_n 3, 1) := F_MD_seeksRow_54.2.2.2.2.2.2.2.1
theorem d_MD_seeksRow_68 : decode prog_12_method_128_code 68 = .ok (.iload_n 2, 1) := F_MD_seeksRow_54.2.2.2.2.2.2.2.2.1
theorem d_MD_seeksRow_69 : decode prog_12_method_128_code 69 = .ok (.if_icmp .ge (76), 3) := F_MD_seeksRow_54.2.2.2.2.2.2.2.2.2.1
theorem d_MD_seeksRow_72 : decode prog_12_method_128_code 72 = .ok (.aload_n 0, 1) := F_MD_seeksRow_54.2.2.2.2.2.2.2.2.2.2.1
theorem d_MD_seeksRow_73 : decode prog_12_method_128_code 73 = .ok (.getfield 419, 3) := F_MD_seeksRow_54.2.2.2.2.2.2.2.2.2.2.2.1
theorem d_MD_seeksRow_76 : decode prog_12_method_128_code 76 = .ok (.ifCond .ne (69), 3) := F_MD_seeksRow_54.2.2.2.2.2.2.2.2.2.2.2.2.1
theorem d_MD_seeksRow_79 : decode prog_12_method_128_code 79 = .ok (.iconst 0, 1) := F_MD_seeksRow_54.2.2.2.2.2.2.2.2.2.2.2.2.2.1
theorem d_MD_seeksRow_80 : decode prog_12_method_128_code 80 = .ok (.istore 4, 2) := F_MD_seeksRow_54.2.2.2.2.2.2.2.2.2.2.2.2.2.2.1
theorem d_MD_seeksRow_82 : decode prog_12_method_128_code 82 = .ok (.iload 4, 2) := F_MD_seeksRow_54.2.2.2.2.2.2.2.2.2.2.2.2.2.2.2.1
theorem d_MD_seeksRow_84 : decode prog_12_method_128_code 84 = .ok (.iload_n 2, 1) := F_MD_seeksRow_54.2.2.2.2.2.2.2.2.2.2.2.2.2.2.2.2.1
theorem d_MD_seeksRow_85 : decode prog_12_method_128_code 85 = .ok (.if_icmp .ge (54), 3) := F_MD_seeksRow_54.2.2.2.2.2.2.2.2.2.2.2.2.2.2.2.2.2.1
theorem d_MD_seeksRow_88 : decode prog_12_method_128_code 88 = .ok (.aload_n 0, 1) := F_MD_seeksRow_54.2.2.2.2.2.2.2.2.2.2.2.2.2.2.2.2.2.2.1
theorem d_MD_seeksRow_89 : decode prog_12_method_128_code 89 = .ok (.getfield 419, 3) := F_MD_seeksRow_54.2.2.2.2.2.2.2.2.2.2.2.2.2.2.2.2.2.2.2.1
theorem d_MD_seeksRow_92 : decode prog_12_method_128_code 92 = .ok (.ifCond .ne (47), 3) := F_MD_seeksRow_54.2.2.2.2.2.2.2.2.2.2.2.2.2.2.2.2.2.2.2.2.1
theorem d_MD_seeksRow_95 : decode prog_12_method_128_code 95 = .ok (.iload_n 3, 1) := F_MD_seeksRow_54.2.2.2.2.2.2.2.2.2.2.2.2.2.2.2.2.2.2.2.2.2.1
theorem d_MD_seeksRow_96 : decode prog_12_method_128_code 96 = .ok (.iload_n 1, 1) := F_MD_seeksRow_54.2.2.2.2.2.2.2.2.2.2.2.2.2.2.2.2.2.2.2.2.2.2.1
theorem d_MD_seeksRow_97 : decode prog_12_method_128_code 97 = .ok (.if_icmp .eq (42), 3) := F_MD_seeksRow_54.2.2.2.2.2.2.2.2.2.2.2.2.2.2.2.2.2.2.2.2.2.2.2.1
theorem d_MD_seeksRow_100 : decode prog_12_method_128_code 100 = .ok (.iload 4, 2) := F_MD_seeksRow_54.2.2.2.2.2.2.2.2.2.2.2.2.2.2.2.2.2.2.2.2.2.2.2.2.1
theorem d_MD_seeksRow_102 : decode prog_12_method_128_code 102 = .ok (.iload_n 1, 1) := F_MD_seeksRow_54.2.2.2.2.2.2.2.2.2.2.2.2.2.2.2.2.2.2.2.2.2.2.2.2.2.1
theorem d_MD_seeksRow_103 : decode prog_12_method_128_code 103 = .ok (.if_icmp .ne (6), 3) := F_MD_seeksRow_54.2.2.2.2.2.2.2.2.2.2.2.2.2.2.2.2.2.2.2.2.2.2.2.2.2.2.1
theorem d_MD_seeksRow_106 : decode prog_12_method_128_code 106 = .ok (.goto (27), 3) := F_MD_seeksRow_54.2.2.2.2.2.2.2.2.2.2.2.2.2.2.2.2.2.2.2.2.2.2.2.2.2.2.2.1
theorem d_MD_seeksRow_109 : decode prog_12_method_128_code 109 = .ok (.aload_n 0, 1) := F_MD_seeksRow_54.2.2.2.2.2.2.2.2.2.2.2.2.2.2.2.2.2.2.2.2.2.2.2.2.2.2.2.2.1
theorem d_MD_seeksRow_110 : decode prog_12_method_128_code 110 = .ok (.iload_n 3, 1) := F_MD_seeksRow_54.2.2.2.2.2.2.2.2.2.2.2.2.2.2.2.2.2.2.2.2.2.2.2.2.2.2.2.2.2.1
theorem d_MD_seeksRow_111 : decode prog_12_method_128_code 111 = .ok (.iload 4, 2) := F_MD_seeksRow_54.2.2.2.2.2.2.2.2.2.2.2.2.2.2.2.2.2.2.2.2.2.2.2.2.2.2.2.2.2.2.1
theorem d_MD_seeksRow_113 : decode prog_12_method_128_code 113 = .ok (.invokevirtual 277, 3) := F_MD_seeksRow_54.2.2.2.2.2.2.2.2.2.2.2.2.2.2.2.2.2.2.2.2.2.2.2.2.2.2.2.2.2.2.2.1
theorem F_MD_seeksRow_116 : Jvm.Free.DS.Facts prog_12_method_128_code 116 [(.aload_n 0, 1), (.iload_n 1, 1), (.invokevirtual 331, 3), (.ifCond .eq (12), 3), (.aload_n 0, 1), (.iconst 2, 1), (.iload_n 3, 1), (.iload 4, 2), (.iconst 0, 1), (.invokevirtual 422, 3), (.iinc 4 (1), 3), (.goto (-54), 3), (.iinc 3 (1), 3), (.goto (-75), 3), (.iconst 0, 1), (.istore_n 3, 1), (.iload_n 3, 1), (.iload_n 2, 1), (.if_icmp .ge (57), 3), (.aload_n 0, 1), (.getfield 419, 3), (.ifCond .ne (50), 3), (.iconst 0, 1), (.istore 4, 2), (.iload 4, 2), (.iload_n 2, 1), (.if_icmp .ge (35), 3), (.aload_n 0, 1), (.getfield 419, 3), (.ifCond .ne (28), 3), (.iload_n 3, 1), (.iload_n 1, 1)] := Jvm.Free.DS.facts 116 _ (by decide +kernel) (by decide +kernel)
theorem d_MD_seeksRow_116 : decode prog_12_method_128_code 116 = .ok (.aload_n 0, 1) := F_MD_seeksRow_116.1
theorem d_MD_seeksRow_117 : decode prog_12_method_128_code 117 = .ok (.iload_n 1, 1) := F_MD_seeksRow_116.2.1
theorem d_MD_seeksRow_118 : decode prog_12_method_128_code 118 = .ok (.invokevirtual 331, 3) := F_MD_seeksRow_116.2.2.1
theorem d_MD_seeksRow_121 : decode prog_12_method_128_code 121 = .ok (.ifCond .eq (12), 3) := F_MD_seeksRow_116.2.2.2.1
theorem d_MD_seeksRow_124 : decode prog_12_method_128_code 124 = .ok (.aload_n 0, 1) := F_MD_seeksRow_116.2.2.2.2.1
theorem d_MD_seeksRow_125 : decode prog_12_method_128_code 125 = .ok (.iconst 2, 1) := F_MD_seeksRow_116.2.2.2.2.2.1
theorem d_MD_seeksRow_126 : decode prog_12_method_128_code 126 = .ok (.iload_n 3, 1) := F_MD_seeksRow_116.2.2.2.2.2.2.1
theorem d_MD_seeksRow_127 : decode prog_12_method_128_code 127 = .ok (.iload 4, 2) := F_MD_seeksRow_116.2.2.2.2.2.2.2.1
theorem d_MD_seeksRow_129 : decode prog_12_method_128_code 129 = .ok (.iconst 0, 1) := F_MD_seeksRow_116.2.2.2.2.2.2.2.2.1
theorem d_MD_seeksRow_130 : decode prog_12_method_128_code 130 = .ok (.invokevirtual 422, 3) := F_MD_seeksRow_116.2.2.2.2.2.2.2.2.2.1
theorem d_MD_seeksRow_133 : decode prog_12_method_128_code 133 = .ok (.iinc 4 (1), 3) := F_MD_seeksRow_116.2.2.2.2.2.2.2.2.2.2.1
theorem d_MD_seeksRow_136 : decode prog_12_method_128_code 136 = .ok (.goto (-54), 3) := F_MD_seeksRow_116.2.2.2.2.2.2.2.2.2.2.2.1
theorem d_MD_seeksRow_139 : decode prog_12_method_128_code 139 = .ok (.iinc 3 (1), 3) := F_MD_seeksRow_116.2.2.2.2.2.2.2.2.2.2.2.2.1
theorem d_MD_seeksRow_142 : decode prog_12_method_128_code 142 = .ok (.goto (-75), 3) := F_MD_seeksRow_116.2.2.2.2.2.2.2.2.2.2.2.2.2.1
theorem d_MD_seeksRow_145 : decode prog_12_method_128_code 145 = .ok (.iconst 0, 1) := F_MD_seeksRow_116.2.2.2.2.2.2.2.2.2.2.2.2.2.2.1
theorem d_MD_seeksRow_146 : decode prog_12_method_128_code 146 = .ok (.istore_n 3, 1) := F_MD_seeksRow_116.2.2.2.2.2.2.2.2.2.2.2.2.2.2.2.1
theorem d_MD_seeksRow_147 : decode prog_12_method_128_code 147 = .ok (.iload_n 3, 1) := F_MD_seeksRow_116.2.2.2.2.2.2.2.2.2.2.2.2.2.2.2.2.1
theorem d_MD_seeksRow_148 : decode prog_12_method_128_code 148 = .ok (.iload_n 2, 1) := F_MD_seeksRow_116.2.2.2.2.2.2.2.2.2.2.2.2.2.2.2.2.2.1
theorem d_MD_seeksRow_149 : decode prog_12_method_128_code 149 = .ok (.if_icmp .ge (57), 3) := F_MD_seeksRow_116.2.2.2.2.2.2.2.2.2.2.2.2.2.2.2.2.2.2.1
theorem d_MD_seeksRow_152 : decode prog_12_method_128_code 152 = .ok (.aload_n 0, 1) := F_MD_seeksRow_116.2.2.2.2.2.2.2.2.2.2.2.2.2.2.2.2.2.2.2.1
theorem d_MD_seeksRow_153 : decode prog_12_method_128_code 153 = .ok (.getfield 419, 3) := F_MD_seeksRow_116.2.2.2.2.2.2.2.2.2.2.2.2.2.2.2.2.2.2.2.2.1
theorem d_MD_seeksRow_156 : decode prog_12_method_128_code 156 = .ok (.ifCond .ne (50), 3) := F_MD_seeksRow_116.2.2.2.2.2.2.2.2.2.2.2.2.2.2.2.2.2.2.2.2.2.1
theorem d_MD_seeksRow_159 : decode prog_12_method_128_code 159 = .ok (.iconst 0, 1) := F_MD_seeksRow_116.2.2.2.2.2.2.2.2.2.2.2.2.2.2.2.2.2.2.2.2.2.2.1
theorem d_MD_seeksRow_160 : decode prog_12_method_128_code 160 = .ok (.istore 4, 2) := F_MD_seeksRow_116.2.2.2.2.2.2.2.2.2.2.2.2.2.2.2.2.2.2.2.2.2.2.2.1
theorem d_MD_seeksRow_162 : decode prog_12_method_128_code 162 = .ok (.iload 4, 2) := F_MD_seeksRow_116.2.2.2.2.2.2.2.2.2.2.2.2.2.2.2.2.2.2.2.2.2.2.2.2.1
theorem d_MD_seeksRow_164 : decode prog_12_method_128_code 164 = .ok (.iload_n 2, 1) := F_MD_seeksRow_116.2.2.2.2.2.2.2.2.2.2.2.2.2.2.2.2.2.2.2.2.2.2.2.2.2.1
theorem d_MD_seeksRow_165 : decode prog_12_method_128_code 165 = .ok (.if_icmp .ge (35), 3) := F_MD_seeksRow_116.2.2.2.2.2.2.2.2.2.2.2.2.2.2.2.2.2.2.2.2.2.2.2.2.2.2.1
theorem d_MD_seeksRow_168 : decode prog_12_method_128_code 168 = .ok (.aload_n 0, 1) := F_MD_seeksRow_116.2.2.2.2.2.2.2.2.2.2.2.2.2.2.2.2.2.2.2.2.2.2.2.2.2.2.2.1
theorem d_MD_seeksRow_169 : decode prog_12_method_128_code 169 = .ok (.getfield 419, 3) := F_MD_seeksRow_116.2.2.2.2.2.2.2.2.2.2.2.2.2.2.2.2.2.2.2.2.2.2.2.2.2.2.2.2.1
theorem d_MD_seeksRow_172 : decode prog_12_method_128_code 172 = .ok (.ifCond .ne (28), 3) := F_MD_seeksRow_116.2.2.2.2.2.2.2.2.2.2.2.2.2.2.2.2.2.2.2.2.2.2.2.2.2.2.2.2.2.1
theorem d_MD_seeksRow_175 : decode prog_12_method_128_code 175 = .ok (.iload_n 3, 1) := F_MD_seeksRow_116.2.2.2.2.2.2.2.2.2.2.2.2.2.2.2.2.2.2.2.2.2.2.2.2.2.2.2.2.2.2.1
theorem d_MD_seeksRow_176 : decode prog_12_method_128_code 176 = .ok (.iload_n 1, 1) := F_MD_seeksRow_116.2.2.2.2.2.2.2.2.2.2.2.2.2.2.2.2.2.2.2.2.2.2.2.2.2.2.2.2.2.2.2.1
theorem F_MD_seeksRow_177 : Jvm.Free.DS.Facts prog_12_method_128_code 177 [(.if_icmp .eq (23), 3), (.iload 4, 2), (.iload_n 1, 1), (.if_icmp .eq (11), 3), (.aload_n 0, 1), (.iload_n 1, 1), (.iload_n 3, 1), (.iload 4, 2), (.invokevirtual 426, 3), (.iinc 4 (1), 3), (.goto (-35), 3), (.iinc 3 (1), 3), (.goto (-56), 3), (.return_, 1)] := Jvm.Free.DS.facts 177 _ (by decide +kernel) (by decide +kernel)
theorem d_MD_seeksRow_177 : decode prog_12_method_128_code 177 = .ok (.if_icmp .eq (23), 3) := F_MD_seeksRow_177.1
theorem d_MD_seeksRow_180 : decode prog_12_method_128_code 180 = .ok (.iload 4, 2) := F_MD_seeksRow_177.2.1
theorem d_MD_seeksRow_182 : decode prog_12_method_128_code 182 = .ok (.iload_n 1, 1) := F_MD_seeksRow_177.2.2.1
theorem d_MD_seeksRow_183 : decode prog_12_method_128_code 183 = .ok (.if_icmp .eq (11), 3) := F_MD_seeksRow_177.2.2.2.1
theorem d_MD_seeksRow_186 : decode prog_12_method_128_code 186 = .ok (.aload_n 0, 1) := F_MD_seeksRow_177.2.2.2.2.1
theorem d_MD_seeksRow_187 : decode prog_12_method_128_code 187 = .ok (.iload_n 1, 1) := F_MD_seeksRow_177.2.2.2.2.2.1
theorem d_MD_seeksRow_188 : decode prog_12_method_128_code 188 = .ok (.iload_n 3, 1) := F_MD_seeksRow_177.2.2.2.2.2.2.1
theorem d_MD_seeksRow_189 : decode prog_12_method_128_code 189 = .ok (.iload 4, 2) := F_MD_seeksRow_177.2.2.2.2.2.2.2.1
theorem d_MD_seeksRow_191 : decode prog_12_method_128_code 191 = .ok (.invokevirtual 426, 3) := F_MD_seeksRow_177.2.2.2.2.2.2.2.2.1
theorem d_MD_seeksRow_194 : decode prog_12_method_128_code 194 = .ok (.iinc 4 (1), 3) := F_MD_seeksRow_177.2.2.2.2.2.2.2.2.2.1
theorem d_MD_seeksRow_197 : decode prog_12_method_128_code 197 = .ok (.goto (-35), 3) := F_MD_seeksRow_177.2.2.2.2.2.2.2.2.2.2.1
theorem d_MD_seeksRow_200 : decode prog_12_method_128_code 200 = .ok (.iinc 3 (1), 3) := F_MD_seeksRow_177.2.2.2.2.2.2.2.2.2.2.2.1
theorem d_MD_seeksRow_203 : decode prog_12_method_128_code 203 = .ok (.goto (-56), 3) := F_MD_seeksRow_177.2.2.2.2.2.2.2.2.2.2.2.2.1
theorem d_MD_seeksRow_206 : decode prog_12_method_128_code 206 = .ok (.return_, 1) := F_MD_seeksRow_177.2.2.2.2.2.2.2.2.2.2.2.2.2.1
theorem F_MD_found_0 : Jvm.Free.DS.Facts prog_12_method_127_code 0 [(.aload_n 0, 1), (.iload_n 1, 1), (.putfield 419, 3), (.aload_n 0, 1), (.getfield 62, 3), (.iconst 0, 1), (.iload_n 2, 1), (.iastore, 1), (.aload_n 0, 1), (.getfield 62, 3), (.iconst 1, 1), (.iload_n 3, 1), (.iastore, 1), (.aload_n 0, 1), (.getfield 62, 3), (.iconst 2, 1), (.iload 4, 2), (.iastore, 1), (.return_, 1)] := Jvm.Free.DS.facts 0 _ (by decide +kernel) (by decide +kernel)
theorem d_MD_found_0 : decode prog_12_method_127_code 0 = .ok (.aload_n 0, 1) := F_MD_found_0.1
theorem d_MD_found_1 : decode prog_12_method_127_code 1 = .ok (.iload_n 1, 1) := F_MD_found_0.2.1
theorem d_MD_found_2 : decode prog_12_method_127_code 2 = .ok (.putfield 419, 3) := F_MD_found_0.2.2.1
theorem d_MD_found_5 : decode prog_12_method_127_code 5 = .ok (.aload_n 0, 1) := F_MD_found_0.2.2.2.1
theorem d_MD_found_6 : decode prog_12_method_127_code 6 = .ok (.getfield 62, 3) := F_MD_found_0.2.2.2.2.1
theorem d_MD_found_9 : decode prog_12_method_127_code 9 = .ok (.iconst 0, 1) := F_MD_found_0.2.2.2.2.2.1
theorem d_MD_found_10 : decode prog_12_method_127_code 10 = .ok (.iload_n 2, 1) := F_MD_found_0.2.2.2.2.2.2.1
theorem d_MD_found_11 : decode prog_12_method_127_code 11 = .ok (.iastore, 1) := F_MD_found_0.2.2.2.2.2.2.2.1
theorem d_MD_found_12 : decode prog_12_method_127_code 12 = .ok (.aload_n 0, 1) := F_MD_found_0.2.2.2.2.2.2.2.2.1
theorem d_MD_found_13 : decode prog_12_method_127_code 13 = .ok (.getfield 62, 3) := F_MD_found_0.2.2.2.2.2.2.2.2.2.1
theorem d_MD_found_16 : decode prog_12_method_127_code 16 = .ok (.iconst 1, 1) := F_MD_found_0.2.2.2.2.2.2.2.2.2.2.1
theorem d_MD_found_17 : decode prog_12_method_127_code 17 = .ok (.iload_n 3, 1) := F_MD_found_0.2.2.2.2.2.2.2.2.2.2.2.1
theorem d_MD_found_18 : decode prog_12_method_127_code 18 = .ok (.iastore, 1) := F_MD_found_0.2.2.2.2.2.2.2.2.2.2.2.2.1
theorem d_MD_found_19 : decode prog_12_method_127_code 19 = .ok (.aload_n 0, 1) := F_MD_found_0.2.2.2.2.2.2.2.2.2.2.2.2.2.1
theorem d_MD_found_20 : decode prog_12_method_127_code 20 = .ok (.getfield 62, 3) := F_MD_found_0.2.2.2.2.2.2.2.2.2.2.2.2.2.2.1
theorem d_MD_found_23 : decode prog_12_method_127_code 23 = .ok (.iconst 2, 1) := F_MD_found_0.2.2.2.2.2.2.2.2.2.2.2.2.2.2.2.1
theorem d_MD_found_24 : decode prog_12_method_127_code 24 = .ok (.iload 4, 2) := F_MD_found_0.2.2.2.2.2.2.2.2.2.2.2.2.2.2.2.2.1
theorem d_MD_found_26 : decode prog_12_method_127_code 26 = .ok (.iastore, 1) := F_MD_found_0.2.2.2.2.2.2.2.2.2.2.2.2.2.2.2.2.2.1
theorem d_MD_found_27 : decode prog_12_method_127_code 27 = .ok (.return_, 1) := F_MD_found_0.2.2.2.2.2.2.2.2.2.2.2.2.2.2.2.2.2.2.1
theorem F_MD_seeksThird_0 : Jvm.Free.DS.Facts prog_12_method_129_code 0 [(.iconst 0, 1), (.istore 4, 2), (.iload 4, 2), (.i2l, 1), (.aload_n 0, 1), (.getfield 21, 3), (.sipush (168), 3), (.laload, 1), (.lcmp, 1), (.ifCond .ge (120), 3), (.aload_n 0, 1), (.getfield 419, 3), (.ifCond .ne (113), 3), (.iload 4, 2), (.iload_n 1, 1), (.if_icmp .ne (6), 3), (.goto (98), 3), (.aload_n 0, 1), (.iload_n 3, 1), (.iload 4, 2), (.invokevirtual 277, 3), (.aload_n 0, 1), (.invokevirtual 172, 3), (.ifCond .eq (6), 3), (.goto (81), 3), (.iconst 0, 1), (.istore 5, 2), (.iload 5, 2), (.bipush (9), 2), (.if_icmp .ge (23), 3), (.aload_n 0, 1), (.getfield 47, 3)] := Jvm.Free.DS.facts 0 _ (by decide +kernel) (by decide +kernel)
theorem d_MD_seeksThird_0 : decode prog_12_method_129_code 0 = .ok (.iconst 0, 1) := F_MD_seeksThird_0.1
theorem d_MD_seeksThird_1 : decode prog_12_method_129_code 1 = .ok (.istore 4, 2) := F_MD_seeksThird_0.2.1
theorem d_MD_seeksThird_3 : decode prog_12_method_129_code 3 = .ok (.iload 4, 2) := F_MD_seeksThird_0.2.2.1
theorem d_MD_seeksThird_5 : decode prog_12_method_129_code 5 = .ok (.i2l, 1) := F_MD_seeksThird_0.2.2.2.1
theorem d_MD_seeksThird_6 : decode prog_12_method_129_code 6 = .ok (.aload_n 0, 1) := F_MD_seeksThird_0.2.2.2.2.1
theorem d_MD_seeksThird_7 : decode prog_12_method_129_code 7 = .ok (.getfield 21, 3) := F_MD_seeksThird_0.2.2.2.2.2.1
theorem d_MD_seeksThird_10 : decode prog_12_method_129_code 10 = .ok (.sipush (168), 3) := F_MD_seeksThird_0.2.2.2.2.2.2.1
theorem d_MD_seeksThird_13 : decode prog_12_method_129_code 13 = .ok (.laload, 1) := F_MD_seeksThird_0.2.2.2.2.2.2.2.1
theorem d_MD_seeksThird_14 : decode prog_12_method_129_code 14 = .ok (.lcmp, 1) := F_MD_seeksThird_0.2.2.2.2.2.2.2.2.1
theorem d_MD_seeksThird_15 : decode prog_12_method_129_code 15 = .ok (.ifCond .ge (120), 3) := F_MD_seeksThird_0.2.2.2.2.2.2.2.2.2.1
theorem d_MD_seeksThird_18 : decode prog_12_method_129_code 18 = .ok (.aload_n 0, 1) := F_MD_seeksThird_0.2.2.2.2.2.2.2.2.2.2.1
theorem d_MD_seeksThird_19 : decode prog_12_method_129_code 19 = .ok (.getfield 419, 3) := F_MD_seeksThird_0.2.2.2.2.2.2.2.2.2.2.2.1
theorem d_MD_seeksThird_22 : decode prog_12_method_129_code 22 = .ok (.ifCond .ne (113), 3) := F_MD_seeksThird_0.2.2.2.2.2.2.2.2.2.2.2.2.1
theorem d_MD_seeksThird_25 : decode prog_12_method_129_code 25 = .ok (.iload 4, 2) := F_MD_seeksThird_0.2.2.2.2.2.2.2.2.2.2.2.2.2.1
theorem d_MD_seeksThird_27 : decode prog_12_method_129_code 27 = .ok (.iload_n 1, 1) := F_MD_seeksThird_0.2.2.2.2.2.2.2.2.2.2.2.2.2.2.1
theorem d_MD_seeksThird_28 : decode prog_12_method_129_code 28 = .ok (.if_icmp .ne (6), 3) := F_MD_seeksThird_0.2.2.2.2.2.2.2.2.2.2.2.2.2.2.2.1
theorem d_MD_seeksThird_31 : decode prog_12_method_129_code 31 = .ok (.goto (98), 3) := F_MD_seeksThird_0.2.2.2.2.2.2.2.2.2.2.2.2.2.2.2.2.1
theorem d_MD_seeksThird_34 : decode prog_12_method_129_code 34 = .ok (.aload_n 0, 1) := F_MD_seeksThird_0.2.2.2.2.2.2.2.2.2.2.2.2.2.2.2.2.2.1
theorem d_MD_seeksThird_35 : decode prog_12_method_129_code 35 = .ok (.iload_n 3, 1) := F_MD_seeksThird_0.2.2.2.2.2.2.2.2.2.2.2.2.2.2.2.2.2.2.1
theorem d_MD_seeksThird_36 : decode prog_12_method_129_code 36 = .ok (.iload 4, 2) := F_MD_seeksThird_0.2.2.2.2.2.2.2.2.2.2.2.2.2.2.2.2.2.2.2.1
theorem d_MD_seeksThird_38 : decode prog_12_method_129_code 38 = .ok (.invokevirtual 277, 3) := F_MD_seeksThird_0.2.2.2.2.2.2.2.2.2.2.2.2.2.2.2.2.2.2.2.2.1
theorem d_MD_seeksThird_41 : decode prog_12_method_129_code 41 = .ok (.aload_n 0, 1) := F_MD_seeksThird_0.2.2.2.2.2.2.2.2.2.2.2.2.2.2.2.2.2.2.2.2.2.1
theorem d_MD_seeksThird_42 : decode prog_12_method_129_code 42 = .ok (.invokevirtual 172, 3) := F_MD_seeksThird_0.2.2.2.2.2.2.2.2.2.2.2.2.2.2.2.2.2.2.2.2.2.2.1
theorem d_MD_seeksThird_45 : decode prog_12_method_129_code 45 = .ok (.ifCond .eq (6), 3) := F_MD_seeksThird_0.2.2.2.2.2.2.2.2.2.2.2.2.2.2.2.2.2.2.2.2.2.2.2.1
theorem d_MD_seeksThird_48 : decode prog_12_method_129_code 48 = .ok (.goto (81), 3) := F_MD_seeksThird_0.2.2.2.2.2.2.2.2.2.2.2.2.2.2.2.2.2.2.2.2.2.2.2.2.1
theorem d_MD_seeksThird_51 : decode prog_12_method_129_code 51 = .ok (.iconst 0, 1) := F_MD_seeksThird_0.2.2.2.2.2.2.2.2.2.2.2.2.2.2.2.2.2.2.2.2.2.2.2.2.2.1
theorem d_MD_seeksThird_52 : decode prog_12_method_129_code 52 = .ok (.istore 5, 2) := F_MD_seeksThird_0.2.2.2.2.2.2.2.2.2.2.2.2.2.2.2.2.2.2.2.2.2.2.2.2.2.2.1
theorem d_MD_seeksThird_54 : decode prog_12_method_129_code 54 = .ok (.iload 5, 2) := F_MD_seeksThird_0.2.2.2.2.2.2.2.2.2.2.2.2.2.2.2.2.2.2.2.2.2.2.2.2.2.2.2.1
theorem d_MD_seeksThird_56 : decode prog_12_method_129_code 56 = .ok (.bipush (9), 2) := F_MD_seeksThird_0.2.2.2.2.2.2.2.2.2.2.2.2.2.2.2.2.2.2.2.2.2.2.2.2.2.2.2.2.1
theorem d_MD_seeksThird_58 : decode prog_12_method_129_code 58 = .ok (.if_icmp .ge (23), 3) := F_MD_seeksThird_0.2.2.2.2.2.2.2.2.2.2.2.2.2.2.2.2.2.2.2.2.2.2.2.2.2.2.2.2.2.1
theorem d_MD_seeksThird_61 : decode prog_12_method_129_code 61 = .ok (.aload_n 0, 1) := F_MD_seeksThird_0.2.2.2.2.2.2.2.2.2.2.2.2.2.2.2.2.2.2.2.2.2.2.2.2.2.2.2.2.2.2.1
theorem d_MD_seeksThird_62 : decode prog_12_method_129_code 62 = .ok (.getfield 47, 3) := F_MD_seeksThird_0.2.2.2.2.2.2.2.2.2.2.2.2.2.2.2.2.2.2.2.2.2.2.2.2.2.2.2.2.2.2.2.1
theorem F_MD_seeksThird_65 : Jvm.Free.DS.Facts prog_12_method_129_code 65 [(.iload 5, 2), (.aload_n 0, 1), (.getfield 41, 3), (.iload 5, 2), (.laload, 1), (.lastore, 1), (.iinc 5 (1), 3), (.goto (-24), 3), (.aload_n 0, 1), (.aload_n 0, 1), (.getfield 44, 3), (.iload_n 2, 1), (.invokevirtual 274, 3), (.aload_n 0, 1), (.getfield 41, 3), (.aload_n 0, 1), (.getfield 44, 3), (.aload_n 0, 1), (.getfield 47, 3), (.invokestatic 234, 3), (.aload_n 0, 1), (.getfield 41, 3), (.invokestatic 220, 3), (.aload_n 0, 1), (.iload_n 1, 1), (.invokevirtual 331, 3), (.ifCond .eq (12), 3), (.aload_n 0, 1), (.iconst 3, 1), (.iload_n 2, 1), (.iload_n 3, 1), (.iload 4, 2)] := Jvm.Free.DS.facts 65 _ (by decide +kernel) (by decide +kernel)
theorem d_MD_seeksThird_65 : decode prog_12_method_129_code 65 = .ok (.iload 5, 2) := F_MD_seeksThird_65.1
theorem d_MD_seeksThird_67 : decode prog_12_method_129_code 67 = .ok (.aload_n 0, 1) := F_MD_seeksThird_65.2.1
theorem d_MD_seeksThird_68 : decode prog_12_method_129_code 68 = .ok (.getfield 41, 3) := F_MD_seeksThird_65.2.2.1
theorem d_MD_seeksThird_71 : decode prog_12_method_129_code 71 = .ok (.iload 5, 2) := F_MD_seeksThird_65.2.2.2.1
theorem d_MD_seeksThird_73 : decode prog_12_method_129_code 73 = .ok (.laload, 1) := F_MD_seeksThird_65.2.2.2.2.1
theorem d_MD_seeksThird_74 : decode prog_12_method_129_code 74 = .ok (.lastore, 1) := F_MD_seeksThird_65.2.2.2.2.2.1
theorem d_MD_seeksThird_75 : decode prog_12_method_129_code 75 = .ok (.iinc 5 (1), 3) := F_MD_seeksThird_65.2.2.2.2.2.2.1
theorem d_MD_seeksThird_78 : decode prog_12_method_129_code 78 = .ok (.goto (-24), 3) := F_MD_seeksThird_65.2.2.2.2.2.2.2.1
theorem d_MD_seeksThird_81 : decode prog_12_method_129_code 81 = .ok (.aload_n 0, 1) := F_MD_seeksThird_65.2.2.2.2.2.2.2.2.1
theorem d_MD_seeksThird_82 : decode prog_12_method_129_code 82 = .ok (.aload_n 0, 1) := F_MD_seeksThird_65.2.2.2.2.2.2.2.2.2.1
theorem d_MD_seeksThird_83 : decode prog_12_method_129_code 83 = .ok (.getfield 44, 3) := F_MD_seeksThird_65.2.2.2.2.2.2.2.2.2.2.1
theorem d_MD_seeksThird_86 : decode prog_12_method_129_code 86 = .ok (.iload_n 2, 1) := F_MD_seeksThird_65.2.2.2.2.2.2.2.2.2.2.2.1
theorem d_MD_seeksThird_87 : decode prog_12_method_129_code 87 = .ok (.invokevirtual 274, 3) := F_MD_seeksThird_65.2.2.2.2.2.2.2.2.2.2.2.2.1
theorem d_MD_seeksThird_90 : decode prog_12_method_129_code 90 = .ok (.aload_n 0, 1) := F_MD_seeksThird_65.2.2.2.2.2.2.2.2.2.2.2.2.2.1
theorem d_MD_seeksThird_91 : decode prog_12_method_129_code 91 = .ok (.getfield 41, 3) := F_MD_seeksThird_65.2.2.2.2.2.2.2.2.2.2.2.2.2.2.1
theorem d_MD_seeksThird_94 : decode prog_12_method_129_code 94 = .ok (.aload_n 0, 1) := F_MD_seeksThird_65.2.2.2.2.2.2.2.2.2.2.2.2.2.2.2.1
theorem d_MD_seeksThird_95 : decode prog_12_method_129_code 95 = .ok (.getfield 44, 3) := F_MD_seeksThird_65.2.2.2.2.2.2.2.2.2.2.2.2.2.2.2.2.1
theorem d_MD_seeksThird_98 : decode prog_12_method_129_code 98 = .ok (.aload_n 0, 1) := F_MD_seeksThird_65.2.2.2.2.2.2.2.2.2.2.2.2.2.2.2.2.2.1
theorem d_MD_seeksThird_99 : decode prog_12_method_129_code 99 = .ok (.getfield 47, 3) := F_MD_seeksThird_65.2.2.2.2.2.2.2.2.2.2.2.2.2.2.2.2.2.2.1
theorem d_MD_seeksThird_102 : decode prog_12_method_129_code 102 = .ok (.invokestatic 234, 3) := F_MD_seeksThird_65.2.2.2.2.2.2.2.2.2.2.2.2.2.2.2.2.2.2.2.1
theorem d_MD_seeksThird_105 : decode prog_12_method_129_code 105 = .ok (.aload_n 0, 1) := F_MD_seeksThird_65.2.2.2.2.2.2.2.2.2.2.2.2.2.2.2.2.2.2.2.2.1
theorem d_MD_seeksThird_106 : decode prog_12_method_129_code 106 = .ok (.getfield 41, 3) := F_MD_seeksThird_65.2.2.2.2.2.2.2.2.2.2.2.2.2.2.2.2.2.2.2.2.2.1
theorem d_MD_seeksThird_109 : decode prog_12_method_129_code 109 = .ok (.invokestatic 220, 3) := F_MD_seeksThird_65.2.2.2.2.2.2.2.2.2.2.2.2.2.2.2.2.2.2.2.2.2.2.1
theorem d_MD_seeksThird_112 : decode prog_12_method_129_code 112 = .ok (.aload_n 0, 1) := F_MD_seeksThird_65.2.2.2.2.2.2.2.2.2.2.2.2.2.2.2.2.2.2.2.2.2.2.2.1
theorem d_MD_seeksThird_113 : decode prog_12_method_129_code 113 = .ok (.iload_n 1, 1) := F_MD_seeksThird_65.2.2.2.2.2.2.2.2.2.2.2.2.2.2.2.2.2.2.2.2.2.2.2.2.1
theorem d_MD_seeksThird_114 : decode prog_12_method_129_code 114 = .ok (.invokevirtual 331, 3) := F_MD_seeksThird_65.2.2.2.2.2.2.2.2.2.2.2.2.2.2.2.2.2.2.2.2.2.2.2.2.2.1
theorem d_MD_seeksThird_117 : decode prog_12_method_129_code 117 = .ok (.ifCond .eq (12), 3) := F_MD_seeksThird_65.2.2.2.2.2.2.2.2.2.2.2.2.2.2.2.2.2.2.2.2.2.2.2.2.2.2.1
theorem d_MD_seeksThird_120 : decode prog_12_method_129_code 120 = .ok (.aload_n 0, 1) := F_MD_seeksThird_65.2.2.2.2.2.2.2.2.2.2.2.2.2.2.2.2.2.2.2.2.2.2.2.2.2.2.2.1
theorem d_MD_seeksThird_121 : decode prog_12_method_129_code 121 = .ok (.iconst 3, 1) := F_MD_seeksThird_65.2.2.2.2.2.2.2.2.2.2.2.2.2.2.2.2.2.2.2.2.2.2.2.2.2.2.2.2.1
theorem d_MD_seeksThird_122 : decode prog_12_method_129_code 122 = .ok (.iload_n 2, 1) := F_MD_seeksThird_65.2.2.2.2.2.2.2.2.2.2.2.2.2.2.2.2.2.2.2.2.2.2.2.2.2.2.2.2.2.1
theorem d_MD_seeksThird_123 : decode prog_12_method_129_code 123 = .ok (.iload_n 3, 1) := F_MD_seeksThird_65.2.2.2.2.2.2.2.2.2.2.2.2.2.2.2.2.2.2.2.2.2.2.2.2.2.2.2.2.2.2.1
theorem d_MD_seeksThird_124 : decode prog_12_method_129_code 124 = .ok (.iload 4, 2) := F_MD_seeksThird_65.2.2.2.2.2.2.2.2.2.2.2.2.2.2.2.2.2.2.2.2.2.2.2.2.2.2.2.2.2.2.2.1
theorem F_MD_seeksThird_126 : Jvm.Free.DS.Facts prog_12_method_129_code 126 [(.invokevirtual 422, 3), (.iinc 4 (1), 3), (.goto (-129), 3), (.return_, 1)] := Jvm.Free.DS.facts 126 _ (by decide +kernel) (by decide +kernel)
theorem d_MD_seeksThird_126 : decode prog_12_method_129_code 126 = .ok (.invokevirtual 422, 3) := F_MD_seeksThird_126.1
theorem d_MD_seeksThird_129 : decode prog_12_method_129_code 129 = .ok (.iinc 4 (1), 3) := F_MD_seeksThird_126.2.1
theorem d_MD_seeksThird_132 : decode prog_12_method_129_code 132 = .ok (.goto (-129), 3) := F_MD_seeksThird_126.2.2.1
theorem d_MD_seeksThird_135 : decode prog_12_method_129_code 135 = .ok (.return_, 1) := F_MD_seeksThird_126.2.2.2.1
theorem F_MD_generated_0 : Jvm.Free.DS.Facts prog_12_method_132_code 0 [(.aload_n 0, 1), (.iconst 0, 1), (.putfield 74, 3), (.iload_n 1, 1), (.iconst 1, 1), (.if_icmp .lt (8), 3), (.iload_n 1, 1), (.iconst 2, 1), (.if_icmp .le (5), 3), (.iconst (-1), 1), (.ireturn, 1), (.aload_n 0, 1), (.iconst 0, 1), (.putfield 432, 3), (.iconst 0, 1), (.istore_n 2, 1), (.iload_n 2, 1), (.i2l, 1), (.aload_n 0, 1), (.getfield 21, 3), (.sipush (168), 3), (.laload, 1), (.lcmp, 1), (.ifCond .ge (22), 3), (.aload_n 0, 1), (.aload_n 0, 1), (.getfield 41, 3), (.iload_n 2, 1), (.invokevirtual 274, 3), (.aload_n 0, 1), (.invokevirtual 435, 3), (.iinc 2 (1), 3)] := Jvm.Free.DS.facts 0 _ (by decide +kernel) (by decide +kernel)
theorem d_MD_generated_0 : decode prog_12_method_132_code 0 = .ok (.aload_n 0, 1) := F_MD_generated_0.1
theorem d_MD_generated_1 : decode prog_12_method_132_code 1 = .ok (.iconst 0, 1) := F_MD_generated_0.2.1
theorem d_MD_generated_2 : decode prog_12_method_132_code 2 = .ok (.putfield 74, 3) := F_MD_generated_0.2.2.1
theorem d_MD_generated_5 : decode prog_12_method_132_code 5 = .ok (.iload_n 1, 1) := F_MD_generated_0.2.2.2.1
theorem d_MD_generated_6 : decode prog_12_method_132_code 6 = .ok (.iconst 1, 1) := F_MD_generated_0.2.2.2.2.1
theorem d_MD_generated_7 : decode prog_12_method_132_code 7 = .ok (.if_icmp .lt (8), 3) := F_MD_generated_0.2.2.2.2.2.1
theorem d_MD_generated_10 : decode prog_12_method_132_code 10 = .ok (.iload_n 1, 1) := F_MD_generated_0.2.2.2.2.2.2.1
theorem d_MD_generated_11 : decode prog_12_method_132_code 11 = .ok (.iconst 2, 1) := F_MD_generated_0.2.2.2.2.2.2.2.1
theorem d_MD_generated_12 : decode prog_12_method_132_code 12 = .ok (.if_icmp .le (5), 3) := F_MD_generated_0.2.2.2.2.2.2.2.2.1
theorem d_MD_generated_15 : decode prog_12_method_132_code 15 = .ok (.iconst (-1), 1) := F_MD_generated_0.2.2.2.2.2.2.2.2.2.1
theorem d_MD_generated_16 : decode prog_12_method_132_code 16 = .ok (.ireturn, 1) := F_MD_generated_0.2.2.2.2.2.2.2.2.2.2.1
theorem d_MD_generated_17 : decode prog_12_method_132_code 17 = .ok (.aload_n 0, 1) := F_MD_generated_0.2.2.2.2.2.2.2.2.2.2.2.1
theorem d_MD_generated_18 : decode prog_12_method_132_code 18 = .ok (.iconst 0, 1) := F_MD_generated_0.2.2.2.2.2.2.2.2.2.2.2.2.1
theorem d_MD_generated_19 : decode prog_12_method_132_code 19 = .ok (.putfield 432, 3) := F_MD_generated_0.2.2.2.2.2.2.2.2.2.2.2.2.2.1
theorem d_MD_generated_22 : decode prog_12_method_132_code 22 = .ok (.iconst 0, 1) := F_MD_generated_0.2.2.2.2.2.2.2.2.2.2.2.2.2.2.1
theorem d_MD_generated_23 : decode prog_12_method_132_code 23 = .ok (.istore_n 2, 1) := F_MD_generated_0.2.2.2.2.2.2.2.2.2.2.2.2.2.2.2.1
theorem d_MD_generated_24 : decode prog_12_method_132_code 24 = .ok (.iload_n 2, 1) := F_MD_generated_0.2.2.2.2.2.2.2.2.2.2.2.2.2.2.2.2.1
theorem d_MD_generated_25 : decode prog_12_method_132_code 25 = .ok (.i2l, 1) := F_MD_generated_0.2.2.2.2.2.2.2.2.2.2.2.2.2.2.2.2.2.1
theorem d_MD_generated_26 : decode prog_12_method_132_code 26 = .ok (.aload_n 0, 1) := F_MD_generated_0.2.2.2.2.2.2.2.2.2.2.2.2.2.2.2.2.2.2.1
theorem d_MD_generated_27 : decode prog_12_method_132_code 27 = .ok (.getfield 21, 3) := F_MD_generated_0.2.2.2.2.2.2.2.2.2.2.2.2.2.2.2.2.2.2.2.1
theorem d_MD_generated_30 : decode prog_12_method_132_code 30 = .ok (.sipush (168), 3) := F_MD_generated_0.2.2.2.2.2.2.2.2.2.2.2.2.2.2.2.2.2.2.2.2.1
theorem d_MD_generated_33 : decode prog_12_method_132_code 33 = .ok (.laload, 1) := F_MD_generated_0.2.2.2.2.2.2.2.2.2.2.2.2.2.2.2.2.2.2.2.2.2.1
theorem d_MD_generated_34 : decode prog_12_method_132_code 34 = .ok (.lcmp, 1) := F_MD_generated_0.2.2.2.2.2.2.2.2.2.2.2.2.2.2.2.2.2.2.2.2.2.2.1
theorem d_MD_generated_35 : decode prog_12_method_132_code 35 = .ok (.ifCond .ge (22), 3) := F_MD_generated_0.2.2.2.2.2.2.2.2.2.2.2.2.2.2.2.2.2.2.2.2.2.2.2.1
theorem d_MD_generated_38 : decode prog_12_method_132_code 38 = .ok (.aload_n 0, 1) := F_MD_generated_0.2.2.2.2.2.2.2.2.2.2.2.2.2.2.2.2.2.2.2.2.2.2.2.2.1
theorem d_MD_generated_39 : decode prog_12_method_132_code 39 = .ok (.aload_n 0, 1) := F_MD_generated_0.2.2.2.2.2.2.2.2.2.2.2.2.2.2.2.2.2.2.2.2.2.2.2.2.2.1
theorem d_MD_generated_40 : decode prog_12_method_132_code 40 = .ok (.getfield 41, 3) := F_MD_generated_0.2.2.2.2.2.2.2.2.2.2.2.2.2.2.2.2.2.2.2.2.2.2.2.2.2.2.1
theorem d_MD_generated_43 : decode prog_12_method_132_code 43 = .ok (.iload_n 2, 1) := F_MD_generated_0.2.2.2.2.2.2.2.2.2.2.2.2.2.2.2.2.2.2.2.2.2.2.2.2.2.2.2.1
theorem d_MD_generated_44 : decode prog_12_method_132_code 44 = .ok (.invokevirtual 274, 3) := F_MD_generated_0.2.2.2.2.2.2.2.2.2.2.2.2.2.2.2.2.2.2.2.2.2.2.2.2.2.2.2.2.1
theorem d_MD_generated_47 : decode prog_12_method_132_code 47 = .ok (.aload_n 0, 1) := F_MD_generated_0.2.2.2.2.2.2.2.2.2.2.2.2.2.2.2.2.2.2.2.2.2.2.2.2.2.2.2.2.2.1
theorem d_MD_generated_48 : decode prog_12_method_132_code 48 = .ok (.invokevirtual 435, 3) := F_MD_generated_0.2.2.2.2.2.2.2.2.2.2.2.2.2.2.2.2.2.2.2.2.2.2.2.2.2.2.2.2.2.2.1
theorem d_MD_generated_51 : decode prog_12_method_132_code 51 = .ok (.iinc 2 (1), 3) := F_MD_generated_0.2.2.2.2.2.2.2.2.2.2.2.2.2.2.2.2.2.2.2.2.2.2.2.2.2.2.2.2.2.2.2.1
theorem F_MD_generated_54 : Jvm.Free.DS.Facts prog_12_method_132_code 54 [(.goto (-30), 3), (.iconst 0, 1), (.istore_n 2, 1), (.iload_n 1, 1), (.iconst 2, 1), (.if_icmp .ne (55), 3), (.iload_n 2, 1), (.i2l, 1), (.aload_n 0, 1), (.getfield 21, 3), (.sipush (168), 3), (.laload, 1), (.lcmp, 1), (.ifCond .ge (41), 3), (.iconst 0, 1), (.istore_n 3, 1), (.iload_n 3, 1), (.i2l, 1), (.aload_n 0, 1), (.getfield 21, 3), (.sipush (168), 3), (.laload, 1), (.lcmp, 1), (.ifCond .ge (19), 3), (.aload_n 0, 1), (.iload_n 2, 1), (.iload_n 3, 1), (.invokevirtual 277, 3), (.aload_n 0, 1), (.invokevirtual 435, 3), (.iinc 3 (1), 3), (.goto (-27), 3)] := Jvm.Free.DS.facts 54 _ (by decide +kernel) (by decide +kernel)
theorem d_MD_generated_54 : decode prog_12_method_132_code 54 = .ok (.goto (-30), 3) := F_MD_generated_54.1
theorem d_MD_generated_57 : decode prog_12_method_132_code 57 = .ok (.iconst 0, 1) := F_MD_generated_54.2.1
theorem d_MD_generated_58 : decode prog_12_method_132_code 58 = .ok (.istore_n 2, 1) := F_MD_generated_54.2.2.1
theorem d_MD_generated_59 : decode prog_12_method_132_code 59 = .ok (.iload_n 1, 1) := F_MD_generated_54.2.2.2.1
theorem d_MD_generated_60 : decode prog_12_method_132_code 60 = .ok (.iconst 2, 1) := F_MD_generated_54.2.2.2.2.1
theorem d_MD_generated_61 : decode prog_12_method_132_code 61 = .ok (.if_icmp .ne (55), 3) := F_MD_generated_54.2.2.2.2.2.1
theorem d_MD_generated_64 : decode prog_12_method_132_code 64 = .ok (.iload_n 2, 1) := F_MD_generated_54.2.2.2.2.2.2.1
theorem d_MD_generated_65 : decode prog_12_method_132_code 65 = .ok (.i2l, 1) := F_MD_generated_54.2.2.2.2.2.2.2.1
theorem d_MD_generated_66 : decode prog_12_method_132_code 66 = .ok (.aload_n 0, 1) := F_MD_generated_54.2.2.2.2.2.2.2.2.1
theorem d_MD_generated_67 : decode prog_12_method_132_code 67 = .ok (.getfield 21, 3) := F_MD_generated_54.2.2.2.2.2.2.2.2.2.1
theorem d_MD_generated_70 : decode prog_12_method_132_code 70 = .ok (.sipush (168), 3) := F_MD_generated_54.2.2.2.2.2.2.2.2.2.2.1
theorem d_MD_generated_73 : decode prog_12_method_132_code 73 = .ok (.laload, 1) := F_MD_generated_54.2.2.2.2.2.2.2.2.2.2.2.1
theorem d_MD_generated_74 : decode prog_12_method_132_code 74 = .ok (.lcmp, 1) := F_MD_generated_54.2.2.2.2.2.2.2.2.2.2.2.2.1
theorem d_MD_generated_75 : decode prog_12_method_132_code 75 = .ok (.ifCond .ge (41), 3) := F_MD_generated_54.2.2.2.2.2.2.2.2.2.2.2.2.2.1
theorem d_MD_generated_78 : decode prog_12_method_132_code 78 = .ok (.iconst 0, 1) := F_MD_generated_54.2.2.2.2.2.2.2.2.2.2.2.2.2.2.1
theorem d_MD_generated_79 : decode prog_12_method_132_code 79 = .ok (.istore_n 3, 1) := F_MD_generated_54.2.2.2.2.2.2.2.2.2.2.2.2.2.2.2.1
theorem d_MD_generated_80 : decode prog_12_method_132_code 80 = .ok (.iload_n 3, 1) := F_MD_generated_54.2.2.2.2.2.2.2.2.2.2.2.2.2.2.2.2.1
theorem d_MD_generated_81 : decode prog_12_method_132_code 81 = .ok (.i2l, 1) := F_MD_generated_54.2.2.2.2.2.2.2.2.2.2.2.2.2.2.2.2.2.1
theorem d_MD_generated_82 : decode prog_12_method_132_code 82 = .ok (.aload_n 0, 1) := F_MD_generated_54.2.2.2.2.2.2.2.2.2.2.2.2.2.2.2.2.2.2.1
theorem d_MD_generated_83 : decode prog_12_method_132_code 83 = .ok (.getfield 21, 3) := F_MD_generated_54.2.2.2.2.2.2.2.2.2.2.2.2.2.2.2.2.2.2.2.1
theorem d_MD_generated_86 : decode prog_12_method_132_code 86 = .ok (.sipush (168), 3) := F_MD_generated_54.2.2.2.2.2.2.2.2.2.2.2.2.2.2.2.2.2.2.2.2.1
theorem d_MD_generated_89 : decode prog_12_method_132_code 89 = .ok (.laload, 1) := F_MD_generated_54.2.2.2.2.2.2.2.2.2.2.2.2.2.2.2.2.2.2.2.2.2.1
theorem d_MD_generated_90 : decode prog_12_method_132_code 90 = .ok (.lcmp, 1) := F_MD_generated_54.2.2.2.2.2.2.2.2.2.2.2.2.2.2.2.2.2.2.2.2.2.2.1
theorem d_MD_generated_91 : decode prog_12_method_132_code 91 = .ok (.ifCond .ge (19), 3) := F_MD_generated_54.2.2.2.2.2.2.2.2.2.2.2.2.2.2.2.2.2.2.2.2.2.2.2.1
theorem d_MD_generated_94 : decode prog_12_method_132_code 94 = .ok (.aload_n 0, 1) := F_MD_generated_54.2.2.2.2.2.2.2.2.2.2.2.2.2.2.2.2.2.2.2.2.2.2.2.2.1
theorem d_MD_generated_95 : decode prog_12_method_132_code 95 = .ok (.iload_n 2, 1) := F_MD_generated_54.2.2.2.2.2.2.2.2.2.2.2.2.2.2.2.2.2.2.2.2.2.2.2.2.2.1
theorem d_MD_generated_96 : decode prog_12_method_132_code 96 = .ok (.iload_n 3, 1) := F_MD_generated_54.2.2.2.2.2.2.2.2.2.2.2.2.2.2.2.2.2.2.2.2.2.2.2.2.2.2.1
theorem d_MD_generated_97 : decode prog_12_method_132_code 97 = .ok (.invokevirtual 277, 3) := F_MD_generated_54.2.2.2.2.2.2.2.2.2.2.2.2.2.2.2.2.2.2.2.2.2.2.2.2.2.2.2.1
theorem d_MD_generated_100 : decode prog_12_method_132_code 100 = .ok (.aload_n 0, 1) := F_MD_generated_54.2.2.2.2.2.2.2.2.2.2.2.2.2.2.2.2.2.2.2.2.2.2.2.2.2.2.2.2.1
theorem d_MD_generated_101 : decode prog_12_method_132_code 101 = .ok (.invokevirtual 435, 3) := F_MD_generated_54.2.2.2.2.2.2.2.2.2.2.2.2.2.2.2.2.2.2.2.2.2.2.2.2.2.2.2.2.2.1
theorem d_MD_generated_104 : decode prog_12_method_132_code 104 = .ok (.iinc 3 (1), 3) := F_MD_generated_54.2.2.2.2.2.2.2.2.2.2.2.2.2.2.2.2.2.2.2.2.2.2.2.2.2.2.2.2.2.2.1
theorem d_MD_generated_107 : decode prog_12_method_132_code 107 = .ok (.goto (-27), 3) := F_MD_generated_54.2.2.2.2.2.2.2.2.2.2.2.2.2.2.2.2.2.2.2.2.2.2.2.2.2.2.2.2.2.2.2.1
theorem F_MD_generated_110 : Jvm.Free.DS.Facts prog_12_method_132_code 110 [(.iinc 2 (1), 3), (.goto (-54), 3), (.aload_n 0, 1), (.getfield 432, 3), (.ireturn, 1)] := Jvm.Free.DS.facts 110 _ (by decide +kernel) (by decide +kernel)
theorem d_MD_generated_110 : decode prog_12_method_132_code 110 = .ok (.iinc 2 (1), 3) := F_MD_generated_110.1
theorem d_MD_generated_113 : decode prog_12_method_132_code 113 = .ok (.goto (-54), 3) := F_MD_generated_110.2.1
theorem d_MD_generated_116 : decode prog_12_method_132_code 116 = .ok (.aload_n 0, 1) := F_MD_generated_110.2.2.1
theorem d_MD_generated_117 : decode prog_12_method_132_code 117 = .ok (.getfield 432, 3) := F_MD_generated_110.2.2.2.1
theorem d_MD_generated_120 : decode prog_12_method_132_code 120 = .ok (.ireturn, 1) := F_MD_generated_110.2.2.2.2.1
theorem F_MD_counts_0 : Jvm.Free.DS.Facts prog_12_method_131_code 0 [(.iconst 0, 1), (.istore_n 1, 1), (.iload_n 1, 1), (.aload_n 0, 1), (.getfield 432, 3), (.if_icmp .ge (61), 3), (.iconst 1, 1), (.istore_n 2, 1), (.iconst 0, 1), (.istore_n 3, 1), (.iload_n 3, 1), (.bipush (9), 2), (.if_icmp .ge (40), 3), (.iload_n 2, 1), (.ifCond .eq (36), 3), (.aload_n 0, 1), (.getfield 65, 3), (.bipush (9), 2), (.iload_n 1, 1), (.imul, 1), (.iload_n 3, 1), (.iadd, 1), (.laload, 1), (.aload_n 0, 1), (.getfield 41, 3), (.iload_n 3, 1), (.laload, 1), (.lcmp, 1), (.ifCond .ne (7), 3), (.iconst 1, 1), (.goto (4), 3), (.iconst 0, 1)] := Jvm.Free.DS.facts 0 _ (by decide +kernel) (by decide +kernel)
theorem d_MD_counts_0 : decode prog_12_method_131_code 0 = .ok (.iconst 0, 1) := F_MD_counts_0.1
theorem d_MD_counts_1 : decode prog_12_method_131_code 1 = .ok (.istore_n 1, 1) := F_MD_counts_0.2.1
theorem d_MD_counts_2 : decode prog_12_method_131_code 2 = .ok (.iload_n 1, 1) := F_MD_counts_0.2.2.1
theorem d_MD_counts_3 : decode prog_12_method_131_code 3 = .ok (.aload_n 0, 1) := F_MD_counts_0.2.2.2.1
theorem d_MD_counts_4 : decode prog_12_method_131_code 4 = .ok (.getfield 432, 3) := F_MD_counts_0.2.2.2.2.1
theorem d_MD_counts_7 : decode prog_12_method_131_code 7 = .ok (.if_icmp .ge (61), 3) := F_MD_counts_0.2.2.2.2.2.1
theorem d_MD_counts_10 : decode prog_12_method_131_code 10 = .ok (.iconst 1, 1) := F_MD_counts_0.2.2.2.2.2.2.1
theorem d_MD_counts_11 : decode prog_12_method_131_code 11 = .ok (.istore_n 2, 1) := F_MD_counts_0.2.2.2.2.2.2.2.1
theorem d_MD_counts_12 : decode prog_12_method_131_code 12 = .ok (.iconst 0, 1) := F_MD_counts_0.2.2.2.2.2.2.2.2.1
theorem d_MD_counts_13 : decode prog_12_method_131_code 13 = .ok (.istore_n 3, 1) := F_MD_counts_0.2.2.2.2.2.2.2.2.2.1
theorem d_MD_counts_14 : decode prog_12_method_131_code 14 = .ok (.iload_n 3, 1) := F_MD_counts_0.2.2.2.2.2.2.2.2.2.2.1
theorem d_MD_counts_15 : decode prog_12_method_131_code 15 = .ok (.bipush (9), 2) := F_MD_counts_0.2.2.2.2.2.2.2.2.2.2.2.1
theorem d_MD_counts_17 : decode prog_12_method_131_code 17 = .ok (.if_icmp .ge (40), 3) := F_MD_counts_0.2.2.2.2.2.2.2.2.2.2.2.2.1
theorem d_MD_counts_20 : decode prog_12_method_131_code 20 = .ok (.iload_n 2, 1) := F_MD_counts_0.2.2.2.2.2.2.2.2.2.2.2.2.2.1
theorem d_MD_counts_21 : decode prog_12_method_131_code 21 = .ok (.ifCond .eq (36), 3) := F_MD_counts_0.2.2.2.2.2.2.2.2.2.2.2.2.2.2.1
theorem d_MD_counts_24 : decode prog_12_method_131_code 24 = .ok (.aload_n 0, 1) := F_MD_counts_0.2.2.2.2.2.2.2.2.2.2.2.2.2.2.2.1
theorem d_MD_counts_25 : decode prog_12_method_131_code 25 = .ok (.getfield 65, 3) := F_MD_counts_0.2.2.2.2.2.2.2.2.2.2.2.2.2.2.2.2.1
theorem d_MD_counts_28 : decode prog_12_method_131_code 28 = .ok (.bipush (9), 2) := F_MD_counts_0.2.2.2.2.2.2.2.2.2.2.2.2.2.2.2.2.2.1
theorem d_MD_counts_30 : decode prog_12_method_131_code 30 = .ok (.iload_n 1, 1) := F_MD_counts_0.2.2.2.2.2.2.2.2.2.2.2.2.2.2.2.2.2.2.1
theorem d_MD_counts_31 : decode prog_12_method_131_code 31 = .ok (.imul, 1) := F_MD_counts_0.2.2.2.2.2.2.2.2.2.2.2.2.2.2.2.2.2.2.2.1
theorem d_MD_counts_32 : decode prog_12_method_131_code 32 = .ok (.iload_n 3, 1) := F_MD_counts_0.2.2.2.2.2.2.2.2.2.2.2.2.2.2.2.2.2.2.2.2.1
theorem d_MD_counts_33 : decode prog_12_method_131_code 33 = .ok (.iadd, 1) := F_MD_counts_0.2.2.2.2.2.2.2.2.2.2.2.2.2.2.2.2.2.2.2.2.2.1
theorem d_MD_counts_34 : decode prog_12_method_131_code 34 = .ok (.laload, 1) := F_MD_counts_0.2.2.2.2.2.2.2.2.2.2.2.2.2.2.2.2.2.2.2.2.2.2.1
theorem d_MD_counts_35 : decode prog_12_method_131_code 35 = .ok (.aload_n 0, 1) := F_MD_counts_0.2.2.2.2.2.2.2.2.2.2.2.2.2.2.2.2.2.2.2.2.2.2.2.1
theorem d_MD_counts_36 : decode prog_12_method_131_code 36 = .ok (.getfield 41, 3) := F_MD_counts_0.2.2.2.2.2.2.2.2.2.2.2.2.2.2.2.2.2.2.2.2.2.2.2.2.1
theorem d_MD_counts_39 : decode prog_12_method_131_code 39 = .ok (.iload_n 3, 1) := F_MD_counts_0.2.2.2.2.2.2.2.2.2.2.2.2.2.2.2.2.2.2.2.2.2.2.2.2.2.1
theorem d_MD_counts_40 : decode prog_12_method_131_code 40 = .ok (.laload, 1) := F_MD_counts_0.2.2.2.2.2.2.2.2.2.2.2.2.2.2.2.2.2.2.2.2.2.2.2.2.2.2.1
theorem d_MD_counts_41 : decode prog_12_method_131_code 41 = .ok (.lcmp, 1) := F_MD_counts_0.2.2.2.2.2.2.2.2.2.2.2.2.2.2.2.2.2.2.2.2.2.2.2.2.2.2.2.1
theorem d_MD_counts_42 : decode prog_12_method_131_code 42 = .ok (.ifCond .ne (7), 3) := F_MD_counts_0.2.2.2.2.2.2.2.2.2.2.2.2.2.2.2.2.2.2.2.2.2.2.2.2.2.2.2.2.1
theorem d_MD_counts_45 : decode prog_12_method_131_code 45 = .ok (.iconst 1, 1) := F_MD_counts_0.2.2.2.2.2.2.2.2.2.2.2.2.2.2.2.2.2.2.2.2.2.2.2.2.2.2.2.2.2.1
theorem d_MD_counts_46 : decode prog_12_method_131_code 46 = .ok (.goto (4), 3) := F_MD_counts_0.2.2.2.2.2.2.2.2.2.2.2.2.2.2.2.2.2.2.2.2.2.2.2.2.2.2.2.2.2.2.1
theorem d_MD_counts_49 : decode prog_12_method_131_code 49 = .ok (.iconst 0, 1) := F_MD_counts_0.2.2.2.2.2.2.2.2.2.2.2.2.2.2.2.2.2.2.2.2.2.2.2.2.2.2.2.2.2.2.2.1
theorem F_MD_counts_50 : Jvm.Free.DS.Facts prog_12_method_131_code 50 [(.istore_n 2, 1), (.iinc 3 (1), 3), (.goto (-40), 3), (.iload_n 2, 1), (.ifCond .eq (4), 3), (.return_, 1), (.iinc 1 (1), 3), (.goto (-63), 3), (.iconst 0, 1), (.istore_n 1, 1), (.iload_n 1, 1), (.bipush (9), 2), (.if_icmp .ge (29), 3), (.aload_n 0, 1), (.getfield 65, 3), (.bipush (9), 2), (.aload_n 0, 1), (.getfield 432, 3), (.imul, 1), (.iload_n 1, 1), (.iadd, 1), (.aload_n 0, 1), (.getfield 41, 3), (.iload_n 1, 1), (.laload, 1), (.lastore, 1), (.iinc 1 (1), 3), (.goto (-29), 3), (.aload_n 0, 1), (.dup, 1), (.getfield 432, 3), (.iconst 1, 1)] := Jvm.Free.DS.facts 50 _ (by decide +kernel) (by decide +kernel)
theorem d_MD_counts_50 : decode prog_12_method_131_code 50 = .ok (.istore_n 2, 1) := F_MD_counts_50.1
theorem d_MD_counts_51 : decode prog_12_method_131_code 51 = .ok (.iinc 3 (1), 3) := F_MD_counts_50.2.1
theorem d_MD_counts_54 : decode prog_12_method_131_code 54 = .ok (.goto (-40), 3) := F_MD_counts_50.2.2.1
theorem d_MD_counts_57 : decode prog_12_method_131_code 57 = .ok (.iload_n 2, 1) := F_MD_counts_50.2.2.2.1
theorem d_MD_counts_58 : decode prog_12_method_131_code 58 = .ok (.ifCond .eq (4), 3) := F_MD_counts_50.2.2.2.2.1
theorem d_MD_counts_61 : decode prog_12_method_131_code 61 = .ok (.return_, 1) := F_MD_counts_50.2.2.2.2.2.1
theorem d_MD_counts_62 : decode prog_12_method_131_code 62 = .ok (.iinc 1 (1), 3) := F_MD_counts_50.2.2.2.2.2.2.1
theorem d_MD_counts_65 : decode prog_12_method_131_code 65 = .ok (.goto (-63), 3) := F_MD_counts_50.2.2.2.2.2.2.2.1
theorem d_MD_counts_68 : decode prog_12_method_131_code 68 = .ok (.iconst 0, 1) := F_MD_counts_50.2.2.2.2.2.2.2.2.1
theorem d_MD_counts_69 : decode prog_12_method_131_code 69 = .ok (.istore_n 1, 1) := F_MD_counts_50.2.2.2.2.2.2.2.2.2.1
theorem d_MD_counts_70 : decode prog_12_method_131_code 70 = .ok (.iload_n 1, 1) := F_MD_counts_50.2.2.2.2.2.2.2.2.2.2.1
theorem d_MD_counts_71 : decode prog_12_method_131_code 71 = .ok (.bipush (9), 2) := F_MD_counts_50.2.2.2.2.2.2.2.2.2.2.2.1
theorem d_MD_counts_73 : decode prog_12_method_131_code 73 = .ok (.if_icmp .ge (29), 3) := F_MD_counts_50.2.2.2.2.2.2.2.2.2.2.2.2.1
theorem d_MD_counts_76 : decode prog_12_method_131_code 76 = .ok (.aload_n 0, 1) := F_MD_counts_50.2.2.2.2.2.2.2.2.2.2.2.2.2.1
theorem d_MD_counts_77 : decode prog_12_method_131_code 77 = .ok (.getfield 65, 3) := F_MD_counts_50.2.2.2.2.2.2.2.2.2.2.2.2.2.2.1
theorem d_MD_counts_80 : decode prog_12_method_131_code 80 = .ok (.bipush (9), 2) := F_MD_counts_50.2.2.2.2.2.2.2.2.2.2.2.2.2.2.2.1
theorem d_MD_counts_82 : decode prog_12_method_131_code 82 = .ok (.aload_n 0, 1) := F_MD_counts_50.2.2.2.2.2.2.2.2.2.2.2.2.2.2.2.2.1
theorem d_MD_counts_83 : decode prog_12_method_131_code 83 = .ok (.getfield 432, 3) := F_MD_counts_50.2.2.2.2.2.2.2.2.2.2.2.2.2.2.2.2.2.1
theorem d_MD_counts_86 : decode prog_12_method_131_code 86 = .ok (.imul, 1) := F_MD_counts_50.2.2.2.2.2.2.2.2.2.2.2.2.2.2.2.2.2.2.1
theorem d_MD_counts_87 : decode prog_12_method_131_code 87 = .ok (.iload_n 1, 1) := F_MD_counts_50.2.2.2.2.2.2.2.2.2.2.2.2.2.2.2.2.2.2.2.1
theorem d_MD_counts_88 : decode prog_12_method_131_code 88 = .ok (.iadd, 1) := F_MD_counts_50.2.2.2.2.2.2.2.2.2.2.2.2.2.2.2.2.2.2.2.2.1
theorem d_MD_counts_89 : decode prog_12_method_131_code 89 = .ok (.aload_n 0, 1) := F_MD_counts_50.2.2.2.2.2.2.2.2.2.2.2.2.2.2.2.2.2.2.2.2.2.1
theorem d_MD_counts_90 : decode prog_12_method_131_code 90 = .ok (.getfield 41, 3) := F_MD_counts_50.2.2.2.2.2.2.2.2.2.2.2.2.2.2.2.2.2.2.2.2.2.2.1
theorem d_MD_counts_93 : decode prog_12_method_131_code 93 = .ok (.iload_n 1, 1) := F_MD_counts_50.2.2.2.2.2.2.2.2.2.2.2.2.2.2.2.2.2.2.2.2.2.2.2.1
theorem d_MD_counts_94 : decode prog_12_method_131_code 94 = .ok (.laload, 1) := F_MD_counts_50.2.2.2.2.2.2.2.2.2.2.2.2.2.2.2.2.2.2.2.2.2.2.2.2.1
theorem d_MD_counts_95 : decode prog_12_method_131_code 95 = .ok (.lastore, 1) := F_MD_counts_50.2.2.2.2.2.2.2.2.2.2.2.2.2.2.2.2.2.2.2.2.2.2.2.2.2.1
theorem d_MD_counts_96 : decode prog_12_method_131_code 96 = .ok (.iinc 1 (1), 3) := F_MD_counts_50.2.2.2.2.2.2.2.2.2.2.2.2.2.2.2.2.2.2.2.2.2.2.2.2.2.2.1
theorem d_MD_counts_99 : decode prog_12_method_131_code 99 = .ok (.goto (-29), 3) := F_MD_counts_50.2.2.2.2.2.2.2.2.2.2.2.2.2.2.2.2.2.2.2.2.2.2.2.2.2.2.2.1
theorem d_MD_counts_102 : decode prog_12_method_131_code 102 = .ok (.aload_n 0, 1) := F_MD_counts_50.2.2.2.2.2.2.2.2.2.2.2.2.2.2.2.2.2.2.2.2.2.2.2.2.2.2.2.2.1
theorem d_MD_counts_103 : decode prog_12_method_131_code 103 = .ok (.dup, 1) := F_MD_counts_50.2.2.2.2.2.2.2.2.2.2.2.2.2.2.2.2.2.2.2.2.2.2.2.2.2.2.2.2.2.1
theorem d_MD_counts_104 : decode prog_12_method_131_code 104 = .ok (.getfield 432, 3) := F_MD_counts_50.2.2.2.2.2.2.2.2.2.2.2.2.2.2.2.2.2.2.2.2.2.2.2.2.2.2.2.2.2.2.1
theorem d_MD_counts_107 : decode prog_12_method_131_code 107 = .ok (.iconst 1, 1) := F_MD_counts_50.2.2.2.2.2.2.2.2.2.2.2.2.2.2.2.2.2.2.2.2.2.2.2.2.2.2.2.2.2.2.2.1
theorem F_MD_counts_108 : Jvm.Free.DS.Facts prog_12_method_131_code 108 [(.iadd, 1), (.putfield 432, 3), (.return_, 1)] := Jvm.Free.DS.facts 108 _ (by decide +kernel) (by decide +kernel)
theorem d_MD_counts_108 : decode prog_12_method_131_code 108 = .ok (.iadd, 1) := F_MD_counts_108.1
theorem d_MD_counts_109 : decode prog_12_method_131_code 109 = .ok (.putfield 432, 3) := F_MD_counts_108.2.1
theorem d_MD_counts_112 : decode prog_12_method_131_code 112 = .ok (.return_, 1) := F_MD_counts_108.2.2.1
theorem F_MD_spell_0 : Jvm.Free.DS.Facts prog_12_method_134_code 0 [(.aload_n 0, 1), (.iconst 0, 1), (.putfield 74, 3), (.aload_n 0, 1), (.iload_n 1, 1), (.invokevirtual 241, 3), (.ifCond .eq (8), 3), (.iload_n 2, 1), (.iconst (-1), 1), (.if_icmp .ge (5), 3), (.iconst (-1), 1), (.ireturn, 1), (.aload_n 0, 1), (.iconst 0, 1), (.putfield 438, 3), (.iconst 0, 1), (.istore_n 3, 1), (.iload_n 3, 1), (.bipush (9), 2), (.if_icmp .ge (49), 3), (.iload_n 3, 1), (.ifCond .le (24), 3), (.aload_n 0, 1), (.getfield 68, 3), (.aload_n 0, 1), (.getfield 438, 3), (.bipush (32), 2), (.iastore, 1), (.aload_n 0, 1), (.dup, 1), (.getfield 438, 3), (.iconst 1, 1)] := Jvm.Free.DS.facts 0 _ (by decide +kernel) (by decide +kernel)
theorem d_MD_spell_0 : decode prog_12_method_134_code 0 = .ok (.aload_n 0, 1) := F_MD_spell_0.1
theorem d_MD_spell_1 : decode prog_12_method_134_code 1 = .ok (.iconst 0, 1) := F_MD_spell_0.2.1
theorem d_MD_spell_2 : decode prog_12_method_134_code 2 = .ok (.putfield 74, 3) := F_MD_spell_0.2.2.1
theorem d_MD_spell_5 : decode prog_12_method_134_code 5 = .ok (.aload_n 0, 1) := F_MD_spell_0.2.2.2.1
theorem d_MD_spell_6 : decode prog_12_method_134_code 6 = .ok (.iload_n 1, 1) := F_MD_spell_0.2.2.2.2.1
theorem d_MD_spell_7 : decode prog_12_method_134_code 7 = .ok (.invokevirtual 241, 3) := F_MD_spell_0.2.2.2.2.2.1
theorem d_MD_spell_10 : decode prog_12_method_134_code 10 = .ok (.ifCond .eq (8), 3) := F_MD_spell_0.2.2.2.2.2.2.1
theorem d_MD_spell_13 : decode prog_12_method_134_code 13 = .ok (.iload_n 2, 1) := F_MD_spell_0.2.2.2.2.2.2.2.1
theorem d_MD_spell_14 : decode prog_12_method_134_code 14 = .ok (.iconst (-1), 1) := F_MD_spell_0.2.2.2.2.2.2.2.2.1
theorem d_MD_spell_15 : decode prog_12_method_134_code 15 = .ok (.if_icmp .ge (5), 3) := F_MD_spell_0.2.2.2.2.2.2.2.2.2.1
theorem d_MD_spell_18 : decode prog_12_method_134_code 18 = .ok (.iconst (-1), 1) := F_MD_spell_0.2.2.2.2.2.2.2.2.2.2.1
theorem d_MD_spell_19 : decode prog_12_method_134_code 19 = .ok (.ireturn, 1) := F_MD_spell_0.2.2.2.2.2.2.2.2.2.2.2.1
theorem d_MD_spell_20 : decode prog_12_method_134_code 20 = .ok (.aload_n 0, 1) := F_MD_spell_0.2.2.2.2.2.2.2.2.2.2.2.2.1
theorem d_MD_spell_21 : decode prog_12_method_134_code 21 = .ok (.iconst 0, 1) := F_MD_spell_0.2.2.2.2.2.2.2.2.2.2.2.2.2.1
theorem d_MD_spell_22 : decode prog_12_method_134_code 22 = .ok (.putfield 438, 3) := F_MD_spell_0.2.2.2.2.2.2.2.2.2.2.2.2.2.2.1
theorem d_MD_spell_25 : decode prog_12_method_134_code 25 = .ok (.iconst 0, 1) := F_MD_spell_0.2.2.2.2.2.2.2.2.2.2.2.2.2.2.2.1
theorem d_MD_spell_26 : decode prog_12_method_134_code 26 = .ok (.istore_n 3, 1) := F_MD_spell_0.2.2.2.2.2.2.2.2.2.2.2.2.2.2.2.2.1
theorem d_MD_spell_27 : decode prog_12_method_134_code 27 = .ok (.iload_n 3, 1) := F_MD_spell_0.2.2.2.2.2.2.2.2.2.2.2.2.2.2.2.2.2.1
theorem d_MD_spell_28 : decode prog_12_method_134_code 28 = .ok (.bipush (9), 2) := F_MD_spell_0.2.2.2.2.2.2.2.2.2.2.2.2.2.2.2.2.2.2.1
theorem d_MD_spell_30 : decode prog_12_method_134_code 30 = .ok (.if_icmp .ge (49), 3) := F_MD_spell_0.2.2.2.2.2.2.2.2.2.2.2.2.2.2.2.2.2.2.2.1
theorem d_MD_spell_33 : decode prog_12_method_134_code 33 = .ok (.iload_n 3, 1) := F_MD_spell_0.2.2.2.2.2.2.2.2.2.2.2.2.2.2.2.2.2.2.2.2.1
theorem d_MD_spell_34 : decode prog_12_method_134_code 34 = .ok (.ifCond .le (24), 3) := F_MD_spell_0.2.2.2.2.2.2.2.2.2.2.2.2.2.2.2.2.2.2.2.2.2.1
theorem d_MD_spell_37 : decode prog_12_method_134_code 37 = .ok (.aload_n 0, 1) := F_MD_spell_0.2.2.2.2.2.2.2.2.2.2.2.2.2.2.2.2.2.2.2.2.2.2.1
theorem d_MD_spell_38 : decode prog_12_method_134_code 38 = .ok (.getfield 68, 3) := F_MD_spell_0.2.2.2.2.2.2.2.2.2.2.2.2.2.2.2.2.2.2.2.2.2.2.2.1
theorem d_MD_spell_41 : decode prog_12_method_134_code 41 = .ok (.aload_n 0, 1) := F_MD_spell_0.2.2.2.2.2.2.2.2.2.2.2.2.2.2.2.2.2.2.2.2.2.2.2.2.1
theorem d_MD_spell_42 : decode prog_12_method_134_code 42 = .ok (.getfield 438, 3) := F_MD_spell_0.2.2.2.2.2.2.2.2.2.2.2.2.2.2.2.2.2.2.2.2.2.2.2.2.2.1
theorem d_MD_spell_45 : decode prog_12_method_134_code 45 = .ok (.bipush (32), 2) := F_MD_spell_0.2.2.2.2.2.2.2.2.2.2.2.2.2.2.2.2.2.2.2.2.2.2.2.2.2.2.1
theorem d_MD_spell_47 : decode prog_12_method_134_code 47 = .ok (.iastore, 1) := F_MD_spell_0.2.2.2.2.2.2.2.2.2.2.2.2.2.2.2.2.2.2.2.2.2.2.2.2.2.2.2.1
theorem d_MD_spell_48 : decode prog_12_method_134_code 48 = .ok (.aload_n 0, 1) := F_MD_spell_0.2.2.2.2.2.2.2.2.2.2.2.2.2.2.2.2.2.2.2.2.2.2.2.2.2.2.2.2.1
theorem d_MD_spell_49 : decode prog_12_method_134_code 49 = .ok (.dup, 1) := F_MD_spell_0.2.2.2.2.2.2.2.2.2.2.2.2.2.2.2.2.2.2.2.2.2.2.2.2.2.2.2.2.2.1
theorem d_MD_spell_50 : decode prog_12_method_134_code 50 = .ok (.getfield 438, 3) := F_MD_spell_0.2.2.2.2.2.2.2.2.2.2.2.2.2.2.2.2.2.2.2.2.2.2.2.2.2.2.2.2.2.2.1
theorem d_MD_spell_53 : decode prog_12_method_134_code 53 = .ok (.iconst 1, 1) := F_MD_spell_0.2.2.2.2.2.2.2.2.2.2.2.2.2.2.2.2.2.2.2.2.2.2.2.2.2.2.2.2.2.2.2.1
theorem F_MD_spell_54 : Jvm.Free.DS.Facts prog_12_method_134_code 54 [(.iadd, 1), (.putfield 438, 3), (.aload_n 0, 1), (.aload_n 0, 1), (.getfield 21, 3), (.bipush (9), 2), (.iload_n 1, 1), (.imul, 1), (.iload_n 3, 1), (.iadd, 1), (.laload, 1), (.invokevirtual 445, 3), (.iinc 3 (1), 3), (.goto (-49), 3), (.iload_n 2, 1), (.iconst (-1), 1), (.if_icmp .ne (10), 3), (.aload_n 0, 1), (.getfield 438, 3), (.goto (22), 3), (.iload_n 2, 1), (.aload_n 0, 1), (.getfield 438, 3), (.if_icmp .ge (12), 3), (.aload_n 0, 1), (.getfield 68, 3), (.iload_n 2, 1), (.iaload, 1), (.goto (5), 3), (.bipush (-2), 2), (.ireturn, 1)] := Jvm.Free.DS.facts 54 _ (by decide +kernel) (by decide +kernel)
theorem d_MD_spell_54 : decode prog_12_method_134_code 54 = .ok (.iadd, 1) := F_MD_spell_54.1
theorem d_MD_spell_55 : decode prog_12_method_134_code 55 = .ok (.putfield 438, 3) := F_MD_spell_54.2.1
theorem d_MD_spell_58 : decode prog_12_method_134_code 58 = .ok (.aload_n 0, 1) := F_MD_spell_54.2.2.1
theorem d_MD_spell_59 : decode prog_12_method_134_code 59 = .ok (.aload_n 0, 1) := F_MD_spell_54.2.2.2.1
theorem d_MD_spell_60 : decode prog_12_method_134_code 60 = .ok (.getfield 21, 3) := F_MD_spell_54.2.2.2.2.1
theorem d_MD_spell_63 : decode prog_12_method_134_code 63 = .ok (.bipush (9), 2) := F_MD_spell_54.2.2.2.2.2.1
theorem d_MD_spell_65 : decode prog_12_method_134_code 65 = .ok (.iload_n 1, 1) := F_MD_spell_54.2.2.2.2.2.2.1
theorem d_MD_spell_66 : decode prog_12_method_134_code 66 = .ok (.imul, 1) := F_MD_spell_54.2.2.2.2.2.2.2.1
theorem d_MD_spell_67 : decode prog_12_method_134_code 67 = .ok (.iload_n 3, 1) := F_MD_spell_54.2.2.2.2.2.2.2.2.1
theorem d_MD_spell_68 : decode prog_12_method_134_code 68 = .ok (.iadd, 1) := F_MD_spell_54.2.2.2.2.2.2.2.2.2.1
theorem d_MD_spell_69 : decode prog_12_method_134_code 69 = .ok (.laload, 1) := F_MD_spell_54.2.2.2.2.2.2.2.2.2.2.1
theorem d_MD_spell_70 : decode prog_12_method_134_code 70 = .ok (.invokevirtual 445, 3) := F_MD_spell_54.2.2.2.2.2.2.2.2.2.2.2.1
theorem d_MD_spell_73 : decode prog_12_method_134_code 73 = .ok (.iinc 3 (1), 3) := F_MD_spell_54.2.2.2.2.2.2.2.2.2.2.2.2.1
theorem d_MD_spell_76 : decode prog_12_method_134_code 76 = .ok (.goto (-49), 3) := F_MD_spell_54.2.2.2.2.2.2.2.2.2.2.2.2.2.1
theorem d_MD_spell_79 : decode prog_12_method_134_code 79 = .ok (.iload_n 2, 1) := F_MD_spell_54.2.2.2.2.2.2.2.2.2.2.2.2.2.2.1
theorem d_MD_spell_80 : decode prog_12_method_134_code 80 = .ok (.iconst (-1), 1) := F_MD_spell_54.2.2.2.2.2.2.2.2.2.2.2.2.2.2.2.1
theorem d_MD_spell_81 : decode prog_12_method_134_code 81 = .ok (.if_icmp .ne (10), 3) := F_MD_spell_54.2.2.2.2.2.2.2.2.2.2.2.2.2.2.2.2.1
theorem d_MD_spell_84 : decode prog_12_method_134_code 84 = .ok (.aload_n 0, 1) := F_MD_spell_54.2.2.2.2.2.2.2.2.2.2.2.2.2.2.2.2.2.1
theorem d_MD_spell_85 : decode prog_12_method_134_code 85 = .ok (.getfield 438, 3) := F_MD_spell_54.2.2.2.2.2.2.2.2.2.2.2.2.2.2.2.2.2.2.1
theorem d_MD_spell_88 : decode prog_12_method_134_code 88 = .ok (.goto (22), 3) := F_MD_spell_54.2.2.2.2.2.2.2.2.2.2.2.2.2.2.2.2.2.2.2.1
theorem d_MD_spell_91 : decode prog_12_method_134_code 91 = .ok (.iload_n 2, 1) := F_MD_spell_54.2.2.2.2.2.2.2.2.2.2.2.2.2.2.2.2.2.2.2.2.1
theorem d_MD_spell_92 : decode prog_12_method_134_code 92 = .ok (.aload_n 0, 1) := F_MD_spell_54.2.2.2.2.2.2.2.2.2.2.2.2.2.2.2.2.2.2.2.2.2.1
theorem d_MD_spell_93 : decode prog_12_method_134_code 93 = .ok (.getfield 438, 3) := F_MD_spell_54.2.2.2.2.2.2.2.2.2.2.2.2.2.2.2.2.2.2.2.2.2.2.1
theorem d_MD_spell_96 : decode prog_12_method_134_code 96 = .ok (.if_icmp .ge (12), 3) := F_MD_spell_54.2.2.2.2.2.2.2.2.2.2.2.2.2.2.2.2.2.2.2.2.2.2.2.1
theorem d_MD_spell_99 : decode prog_12_method_134_code 99 = .ok (.aload_n 0, 1) := F_MD_spell_54.2.2.2.2.2.2.2.2.2.2.2.2.2.2.2.2.2.2.2.2.2.2.2.2.1
theorem d_MD_spell_100 : decode prog_12_method_134_code 100 = .ok (.getfield 68, 3) := F_MD_spell_54.2.2.2.2.2.2.2.2.2.2.2.2.2.2.2.2.2.2.2.2.2.2.2.2.2.1
theorem d_MD_spell_103 : decode prog_12_method_134_code 103 = .ok (.iload_n 2, 1) := F_MD_spell_54.2.2.2.2.2.2.2.2.2.2.2.2.2.2.2.2.2.2.2.2.2.2.2.2.2.2.1
theorem d_MD_spell_104 : decode prog_12_method_134_code 104 = .ok (.iaload, 1) := F_MD_spell_54.2.2.2.2.2.2.2.2.2.2.2.2.2.2.2.2.2.2.2.2.2.2.2.2.2.2.2.1
theorem d_MD_spell_105 : decode prog_12_method_134_code 105 = .ok (.goto (5), 3) := F_MD_spell_54.2.2.2.2.2.2.2.2.2.2.2.2.2.2.2.2.2.2.2.2.2.2.2.2.2.2.2.2.1
theorem d_MD_spell_108 : decode prog_12_method_134_code 108 = .ok (.bipush (-2), 2) := F_MD_spell_54.2.2.2.2.2.2.2.2.2.2.2.2.2.2.2.2.2.2.2.2.2.2.2.2.2.2.2.2.2.1
theorem d_MD_spell_110 : decode prog_12_method_134_code 110 = .ok (.ireturn, 1) := F_MD_spell_54.2.2.2.2.2.2.2.2.2.2.2.2.2.2.2.2.2.2.2.2.2.2.2.2.2.2.2.2.2.2.1
theorem F_MD_spells_0 : Jvm.Free.DS.Facts prog_12_method_133_code 0 [(.lload_n 1, 1), (.lconst 0, 1), (.lcmp, 1), (.ifCond .ge (24), 3), (.aload_n 0, 1), (.getfield 68, 3), (.aload_n 0, 1), (.getfield 438, 3), (.bipush (45), 2), (.iastore, 1), (.aload_n 0, 1), (.dup, 1), (.getfield 438, 3), (.iconst 1, 1), (.iadd, 1), (.putfield 438, 3), (.lload_n 1, 1), (.invokestatic 210, 3), (.lstore_n 3, 1), (.lconst 1, 1), (.lstore 5, 2), (.lload_n 3, 1), (.lload 5, 2), (.ldiv, 1), (.ldc2_w 441, 3), (.lcmp, 1), (.ifCond .le (14), 3), (.lload 5, 2), (.ldc2_w 443, 3), (.lmul, 1), (.lstore 5, 2), (.goto (-19), 3)] := Jvm.Free.DS.facts 0 _ (by decide +kernel) (by decide +kernel)
theorem d_MD_spells_0 : decode prog_12_method_133_code 0 = .ok (.lload_n 1, 1) := F_MD_spells_0.1
theorem d_MD_spells_1 : decode prog_12_method_133_code 1 = .ok (.lconst 0, 1) := F_MD_spells_0.2.1
theorem d_MD_spells_2 : decode prog_12_method_133_code 2 = .ok (.lcmp, 1) := F_MD_spells_0.2.2.1
theorem d_MD_spells_3 : decode prog_12_method_133_code 3 = .ok (.ifCond .ge (24), 3) := F_MD_spells_0.2.2.2.1
theorem d_MD_spells_6 : decode prog_12_method_133_code 6 = .ok (.aload_n 0, 1) := F_MD_spells_0.2.2.2.2.1
theorem d_MD_spells_7 : decode prog_12_method_133_code 7 = .ok (.getfield 68, 3) := F_MD_spells_0.2.2.2.2.2.1
theorem d_MD_spells_10 : decode prog_12_method_133_code 10 = .ok (.aload_n 0, 1) := F_MD_spells_0.2.2.2.2.2.2.1
theorem d_MD_spells_11 : decode prog_12_method_133_code 11 = .ok (.getfield 438, 3) := F_MD_spells_0.2.2.2.2.2.2.2.1
theorem d_MD_spells_14 : decode prog_12_method_133_code 14 = .ok (.bipush (45), 2) := F_MD_spells_0.2.2.2.2.2.2.2.2.1
theorem d_MD_spells_16 : decode prog_12_method_133_code 16 = .ok (.iastore, 1) := F_MD_spells_0.2.2.2.2.2.2.2.2.2.1
theorem d_MD_spells_17 : decode prog_12_method_133_code 17 = .ok (.aload_n 0, 1) := F_MD_spells_0.2.2.2.2.2.2.2.2.2.2.1
theorem d_MD_spells_18 : decode prog_12_method_133_code 18 = .ok (.dup, 1) := F_MD_spells_0.2.2.2.2.2.2.2.2.2.2.2.1
theorem d_MD_spells_19 : decode prog_12_method_133_code 19 = .ok (.getfield 438, 3) := F_MD_spells_0.2.2.2.2.2.2.2.2.2.2.2.2.1
theorem d_MD_spells_22 : decode prog_12_method_133_code 22 = .ok (.iconst 1, 1) := F_MD_spells_0.2.2.2.2.2.2.2.2.2.2.2.2.2.1
theorem d_MD_spells_23 : decode prog_12_method_133_code 23 = .ok (.iadd, 1) := F_MD_spells_0.2.2.2.2.2.2.2.2.2.2.2.2.2.2.1
theorem d_MD_spells_24 : decode prog_12_method_133_code 24 = .ok (.putfield 438, 3) := F_MD_spells_0.2.2.2.2.2.2.2.2.2.2.2.2.2.2.2.1
theorem d_MD_spells_27 : decode prog_12_method_133_code 27 = .ok (.lload_n 1, 1) := F_MD_spells_0.2.2.2.2.2.2.2.2.2.2.2.2.2.2.2.2.1
theorem d_MD_spells_28 : decode prog_12_method_133_code 28 = .ok (.invokestatic 210, 3) := F_MD_spells_0.2.2.2.2.2.2.2.2.2.2.2.2.2.2.2.2.2.1
theorem d_MD_spells_31 : decode prog_12_method_133_code 31 = .ok (.lstore_n 3, 1) := F_MD_spells_0.2.2.2.2.2.2.2.2.2.2.2.2.2.2.2.2.2.2.1
theorem d_MD_spells_32 : decode prog_12_method_133_code 32 = .ok (.lconst 1, 1) := F_MD_spells_0.2.2.2.2.2.2.2.2.2.2.2.2.2.2.2.2.2.2.2.1
theorem d_MD_spells_33 : decode prog_12_method_133_code 33 = .ok (.lstore 5, 2) := F_MD_spells_0.2.2.2.2.2.2.2.2.2.2.2.2.2.2.2.2.2.2.2.2.1
theorem d_MD_spells_35 : decode prog_12_method_133_code 35 = .ok (.lload_n 3, 1) := F_MD_spells_0.2.2.2.2.2.2.2.2.2.2.2.2.2.2.2.2.2.2.2.2.2.1
theorem d_MD_spells_36 : decode prog_12_method_133_code 36 = .ok (.lload 5, 2) := F_MD_spells_0.2.2.2.2.2.2.2.2.2.2.2.2.2.2.2.2.2.2.2.2.2.2.1
theorem d_MD_spells_38 : decode prog_12_method_133_code 38 = .ok (.ldiv, 1) := F_MD_spells_0.2.2.2.2.2.2.2.2.2.2.2.2.2.2.2.2.2.2.2.2.2.2.2.1
theorem d_MD_spells_39 : decode prog_12_method_133_code 39 = .ok (.ldc2_w 441, 3) := F_MD_spells_0.2.2.2.2.2.2.2.2.2.2.2.2.2.2.2.2.2.2.2.2.2.2.2.2.1
theorem d_MD_spells_42 : decode prog_12_method_133_code 42 = .ok (.lcmp, 1) := F_MD_spells_0.2.2.2.2.2.2.2.2.2.2.2.2.2.2.2.2.2.2.2.2.2.2.2.2.2.1
theorem d_MD_spells_43 : decode prog_12_method_133_code 43 = .ok (.ifCond .le (14), 3) := F_MD_spells_0.2.2.2.2.2.2.2.2.2.2.2.2.2.2.2.2.2.2.2.2.2.2.2.2.2.2.1
theorem d_MD_spells_46 : decode prog_12_method_133_code 46 = .ok (.lload 5, 2) := F_MD_spells_0.2.2.2.2.2.2.2.2.2.2.2.2.2.2.2.2.2.2.2.2.2.2.2.2.2.2.2.1
theorem d_MD_spells_48 : decode prog_12_method_133_code 48 = .ok (.ldc2_w 443, 3) := F_MD_spells_0.2.2.2.2.2.2.2.2.2.2.2.2.2.2.2.2.2.2.2.2.2.2.2.2.2.2.2.2.1
theorem d_MD_spells_51 : decode prog_12_method_133_code 51 = .ok (.lmul, 1) := F_MD_spells_0.2.2.2.2.2.2.2.2.2.2.2.2.2.2.2.2.2.2.2.2.2.2.2.2.2.2.2.2.2.1
theorem d_MD_spells_52 : decode prog_12_method_133_code 52 = .ok (.lstore 5, 2) := F_MD_spells_0.2.2.2.2.2.2.2.2.2.2.2.2.2.2.2.2.2.2.2.2.2.2.2.2.2.2.2.2.2.2.1
theorem d_MD_spells_54 : decode prog_12_method_133_code 54 = .ok (.goto (-19), 3) := F_MD_spells_0.2.2.2.2.2.2.2.2.2.2.2.2.2.2.2.2.2.2.2.2.2.2.2.2.2.2.2.2.2.2.2.1
theorem F_MD_spells_57 : Jvm.Free.DS.Facts prog_12_method_133_code 57 [(.lload 5, 2), (.lconst 0, 1), (.lcmp, 1), (.ifCond .le (45), 3), (.aload_n 0, 1), (.getfield 68, 3), (.aload_n 0, 1), (.getfield 438, 3), (.bipush (48), 2), (.lload_n 3, 1), (.lload 5, 2), (.ldiv, 1), (.ldc2_w 443, 3), (.lrem, 1), (.l2i, 1), (.iadd, 1), (.iastore, 1), (.aload_n 0, 1), (.dup, 1), (.getfield 438, 3), (.iconst 1, 1), (.iadd, 1), (.putfield 438, 3), (.lload 5, 2), (.ldc2_w 443, 3), (.ldiv, 1), (.lstore 5, 2), (.goto (-46), 3), (.return_, 1)] := Jvm.Free.DS.facts 57 _ (by decide +kernel) (by decide +kernel)
theorem d_MD_spells_57 : decode prog_12_method_133_code 57 = .ok (.lload 5, 2) := F_MD_spells_57.1
theorem d_MD_spells_59 : decode prog_12_method_133_code 59 = .ok (.lconst 0, 1) := F_MD_spells_57.2.1
theorem d_MD_spells_60 : decode prog_12_method_133_code 60 = .ok (.lcmp, 1) := F_MD_spells_57.2.2.1
theorem d_MD_spells_61 : decode prog_12_method_133_code 61 = .ok (.ifCond .le (45), 3) := F_MD_spells_57.2.2.2.1
theorem d_MD_spells_64 : decode prog_12_method_133_code 64 = .ok (.aload_n 0, 1) := F_MD_spells_57.2.2.2.2.1
theorem d_MD_spells_65 : decode prog_12_method_133_code 65 = .ok (.getfield 68, 3) := F_MD_spells_57.2.2.2.2.2.1
theorem d_MD_spells_68 : decode prog_12_method_133_code 68 = .ok (.aload_n 0, 1) := F_MD_spells_57.2.2.2.2.2.2.1
theorem d_MD_spells_69 : decode prog_12_method_133_code 69 = .ok (.getfield 438, 3) := F_MD_spells_57.2.2.2.2.2.2.2.1
theorem d_MD_spells_72 : decode prog_12_method_133_code 72 = .ok (.bipush (48), 2) := F_MD_spells_57.2.2.2.2.2.2.2.2.1
theorem d_MD_spells_74 : decode prog_12_method_133_code 74 = .ok (.lload_n 3, 1) := F_MD_spells_57.2.2.2.2.2.2.2.2.2.1
theorem d_MD_spells_75 : decode prog_12_method_133_code 75 = .ok (.lload 5, 2) := F_MD_spells_57.2.2.2.2.2.2.2.2.2.2.1
theorem d_MD_spells_77 : decode prog_12_method_133_code 77 = .ok (.ldiv, 1) := F_MD_spells_57.2.2.2.2.2.2.2.2.2.2.2.1
theorem d_MD_spells_78 : decode prog_12_method_133_code 78 = .ok (.ldc2_w 443, 3) := F_MD_spells_57.2.2.2.2.2.2.2.2.2.2.2.2.1
theorem d_MD_spells_81 : decode prog_12_method_133_code 81 = .ok (.lrem, 1) := F_MD_spells_57.2.2.2.2.2.2.2.2.2.2.2.2.2.1
theorem d_MD_spells_82 : decode prog_12_method_133_code 82 = .ok (.l2i, 1) := F_MD_spells_57.2.2.2.2.2.2.2.2.2.2.2.2.2.2.1
theorem d_MD_spells_83 : decode prog_12_method_133_code 83 = .ok (.iadd, 1) := F_MD_spells_57.2.2.2.2.2.2.2.2.2.2.2.2.2.2.2.1
theorem d_MD_spells_84 : decode prog_12_method_133_code 84 = .ok (.iastore, 1) := F_MD_spells_57.2.2.2.2.2.2.2.2.2.2.2.2.2.2.2.2.1
theorem d_MD_spells_85 : decode prog_12_method_133_code 85 = .ok (.aload_n 0, 1) := F_MD_spells_57.2.2.2.2.2.2.2.2.2.2.2.2.2.2.2.2.2.1
theorem d_MD_spells_86 : decode prog_12_method_133_code 86 = .ok (.dup, 1) := F_MD_spells_57.2.2.2.2.2.2.2.2.2.2.2.2.2.2.2.2.2.2.1
theorem d_MD_spells_87 : decode prog_12_method_133_code 87 = .ok (.getfield 438, 3) := F_MD_spells_57.2.2.2.2.2.2.2.2.2.2.2.2.2.2.2.2.2.2.2.1
theorem d_MD_spells_90 : decode prog_12_method_133_code 90 = .ok (.iconst 1, 1) := F_MD_spells_57.2.2.2.2.2.2.2.2.2.2.2.2.2.2.2.2.2.2.2.2.1
theorem d_MD_spells_91 : decode prog_12_method_133_code 91 = .ok (.iadd, 1) := F_MD_spells_57.2.2.2.2.2.2.2.2.2.2.2.2.2.2.2.2.2.2.2.2.2.1
theorem d_MD_spells_92 : decode prog_12_method_133_code 92 = .ok (.putfield 438, 3) := F_MD_spells_57.2.2.2.2.2.2.2.2.2.2.2.2.2.2.2.2.2.2.2.2.2.2.1
theorem d_MD_spells_95 : decode prog_12_method_133_code 95 = .ok (.lload 5, 2) := F_MD_spells_57.2.2.2.2.2.2.2.2.2.2.2.2.2.2.2.2.2.2.2.2.2.2.2.1
theorem d_MD_spells_97 : decode prog_12_method_133_code 97 = .ok (.ldc2_w 443, 3) := F_MD_spells_57.2.2.2.2.2.2.2.2.2.2.2.2.2.2.2.2.2.2.2.2.2.2.2.2.1
theorem d_MD_spells_100 : decode prog_12_method_133_code 100 = .ok (.ldiv, 1) := F_MD_spells_57.2.2.2.2.2.2.2.2.2.2.2.2.2.2.2.2.2.2.2.2.2.2.2.2.2.1
theorem d_MD_spells_101 : decode prog_12_method_133_code 101 = .ok (.lstore 5, 2) := F_MD_spells_57.2.2.2.2.2.2.2.2.2.2.2.2.2.2.2.2.2.2.2.2.2.2.2.2.2.2.1
theorem d_MD_spells_103 : decode prog_12_method_133_code 103 = .ok (.goto (-46), 3) := F_MD_spells_57.2.2.2.2.2.2.2.2.2.2.2.2.2.2.2.2.2.2.2.2.2.2.2.2.2.2.2.1
theorem d_MD_spells_106 : decode prog_12_method_133_code 106 = .ok (.return_, 1) := F_MD_spells_57.2.2.2.2.2.2.2.2.2.2.2.2.2.2.2.2.2.2.2.2.2.2.2.2.2.2.2.2.1
theorem F_MD_pull_0 : Jvm.Free.DS.Facts prog_12_method_136_code 0 [(.aload_n 0, 1), (.iconst 0, 1), (.putfield 74, 3), (.aload_n 0, 1), (.iload_n 1, 1), (.invokevirtual 241, 3), (.ifCond .eq (21), 3), (.iload_n 2, 1), (.iload_n 3, 1), (.iload 4, 2), (.invokestatic 303, 3), (.ifCond .eq (11), 3), (.iload 5, 2), (.invokestatic 244, 3), (.ifCond .ne (7), 3), (.ldc2_w 307, 3), (.lreturn, 1), (.aload_n 0, 1), (.iload_n 1, 1), (.iload_n 2, 1), (.i2l, 1), (.iload_n 3, 1), (.i2l, 1), (.iload 4, 2), (.i2l, 1), (.invokevirtual 449, 3), (.aload_n 0, 1), (.getfield 50, 3), (.iload 5, 2), (.laload, 1), (.lreturn, 1)] := Jvm.Free.DS.facts 0 _ (by decide +kernel) (by decide +kernel)
theorem d_MD_pull_0 : decode prog_12_method_136_code 0 = .ok (.aload_n 0, 1) := F_MD_pull_0.1
theorem d_MD_pull_1 : decode prog_12_method_136_code 1 = .ok (.iconst 0, 1) := F_MD_pull_0.2.1
theorem d_MD_pull_2 : decode prog_12_method_136_code 2 = .ok (.putfield 74, 3) := F_MD_pull_0.2.2.1
theorem d_MD_pull_5 : decode prog_12_method_136_code 5 = .ok (.aload_n 0, 1) := F_MD_pull_0.2.2.2.1
theorem d_MD_pull_6 : decode prog_12_method_136_code 6 = .ok (.iload_n 1, 1) := F_MD_pull_0.2.2.2.2.1
theorem d_MD_pull_7 : decode prog_12_method_136_code 7 = .ok (.invokevirtual 241, 3) := F_MD_pull_0.2.2.2.2.2.1
theorem d_MD_pull_10 : decode prog_12_method_136_code 10 = .ok (.ifCond .eq (21), 3) := F_MD_pull_0.2.2.2.2.2.2.1
theorem d_MD_pull_13 : decode prog_12_method_136_code 13 = .ok (.iload_n 2, 1) := F_MD_pull_0.2.2.2.2.2.2.2.1
theorem d_MD_pull_14 : decode prog_12_method_136_code 14 = .ok (.iload_n 3, 1) := F_MD_pull_0.2.2.2.2.2.2.2.2.1
theorem d_MD_pull_15 : decode prog_12_method_136_code 15 = .ok (.iload 4, 2) := F_MD_pull_0.2.2.2.2.2.2.2.2.2.1
theorem d_MD_pull_17 : decode prog_12_method_136_code 17 = .ok (.invokestatic 303, 3) := F_MD_pull_0.2.2.2.2.2.2.2.2.2.2.1
theorem d_MD_pull_20 : decode prog_12_method_136_code 20 = .ok (.ifCond .eq (11), 3) := F_MD_pull_0.2.2.2.2.2.2.2.2.2.2.2.1
theorem d_MD_pull_23 : decode prog_12_method_136_code 23 = .ok (.iload 5, 2) := F_MD_pull_0.2.2.2.2.2.2.2.2.2.2.2.2.1
theorem d_MD_pull_25 : decode prog_12_method_136_code 25 = .ok (.invokestatic 244, 3) := F_MD_pull_0.2.2.2.2.2.2.2.2.2.2.2.2.2.1
theorem d_MD_pull_28 : decode prog_12_method_136_code 28 = .ok (.ifCond .ne (7), 3) := F_MD_pull_0.2.2.2.2.2.2.2.2.2.2.2.2.2.2.1
theorem d_MD_pull_31 : decode prog_12_method_136_code 31 = .ok (.ldc2_w 307, 3) := F_MD_pull_0.2.2.2.2.2.2.2.2.2.2.2.2.2.2.2.1
theorem d_MD_pull_34 : decode prog_12_method_136_code 34 = .ok (.lreturn, 1) := F_MD_pull_0.2.2.2.2.2.2.2.2.2.2.2.2.2.2.2.2.1
theorem d_MD_pull_35 : decode prog_12_method_136_code 35 = .ok (.aload_n 0, 1) := F_MD_pull_0.2.2.2.2.2.2.2.2.2.2.2.2.2.2.2.2.2.1
theorem d_MD_pull_36 : decode prog_12_method_136_code 36 = .ok (.iload_n 1, 1) := F_MD_pull_0.2.2.2.2.2.2.2.2.2.2.2.2.2.2.2.2.2.2.1
theorem d_MD_pull_37 : decode prog_12_method_136_code 37 = .ok (.iload_n 2, 1) := F_MD_pull_0.2.2.2.2.2.2.2.2.2.2.2.2.2.2.2.2.2.2.2.1
theorem d_MD_pull_38 : decode prog_12_method_136_code 38 = .ok (.i2l, 1) := F_MD_pull_0.2.2.2.2.2.2.2.2.2.2.2.2.2.2.2.2.2.2.2.2.1
theorem d_MD_pull_39 : decode prog_12_method_136_code 39 = .ok (.iload_n 3, 1) := F_MD_pull_0.2.2.2.2.2.2.2.2.2.2.2.2.2.2.2.2.2.2.2.2.2.1
theorem d_MD_pull_40 : decode prog_12_method_136_code 40 = .ok (.i2l, 1) := F_MD_pull_0.2.2.2.2.2.2.2.2.2.2.2.2.2.2.2.2.2.2.2.2.2.2.1
theorem d_MD_pull_41 : decode prog_12_method_136_code 41 = .ok (.iload 4, 2) := F_MD_pull_0.2.2.2.2.2.2.2.2.2.2.2.2.2.2.2.2.2.2.2.2.2.2.2.1
theorem d_MD_pull_43 : decode prog_12_method_136_code 43 = .ok (.i2l, 1) := F_MD_pull_0.2.2.2.2.2.2.2.2.2.2.2.2.2.2.2.2.2.2.2.2.2.2.2.2.1
theorem d_MD_pull_44 : decode prog_12_method_136_code 44 = .ok (.invokevirtual 449, 3) := F_MD_pull_0.2.2.2.2.2.2.2.2.2.2.2.2.2.2.2.2.2.2.2.2.2.2.2.2.2.1
theorem d_MD_pull_47 : decode prog_12_method_136_code 47 = .ok (.aload_n 0, 1) := F_MD_pull_0.2.2.2.2.2.2.2.2.2.2.2.2.2.2.2.2.2.2.2.2.2.2.2.2.2.2.1
theorem d_MD_pull_48 : decode prog_12_method_136_code 48 = .ok (.getfield 50, 3) := F_MD_pull_0.2.2.2.2.2.2.2.2.2.2.2.2.2.2.2.2.2.2.2.2.2.2.2.2.2.2.2.1
theorem d_MD_pull_51 : decode prog_12_method_136_code 51 = .ok (.iload 5, 2) := F_MD_pull_0.2.2.2.2.2.2.2.2.2.2.2.2.2.2.2.2.2.2.2.2.2.2.2.2.2.2.2.2.1
theorem d_MD_pull_53 : decode prog_12_method_136_code 53 = .ok (.laload, 1) := F_MD_pull_0.2.2.2.2.2.2.2.2.2.2.2.2.2.2.2.2.2.2.2.2.2.2.2.2.2.2.2.2.2.1
theorem d_MD_pull_54 : decode prog_12_method_136_code 54 = .ok (.lreturn, 1) := F_MD_pull_0.2.2.2.2.2.2.2.2.2.2.2.2.2.2.2.2.2.2.2.2.2.2.2.2.2.2.2.2.2.2.1
theorem F_MD_laysPull_0 : Jvm.Free.DS.Facts prog_12_method_135_code 0 [(.aload_n 0, 1), (.aload_n 0, 1), (.getfield 44, 3), (.iload_n 1, 1), (.invokevirtual 274, 3), (.aload_n 0, 1), (.aload_n 0, 1), (.getfield 44, 3), (.iconst 0, 1), (.laload, 1), (.lload_n 2, 1), (.lmul, 1), (.aload_n 0, 1), (.getfield 44, 3), (.iconst 3, 1), (.laload, 1), (.lload 4, 2), (.lmul, 1), (.ladd, 1), (.aload_n 0, 1), (.getfield 44, 3), (.bipush (6), 2), (.laload, 1), (.lload 6, 2), (.lmul, 1), (.ladd, 1), (.aload_n 0, 1), (.getfield 44, 3), (.iconst 1, 1), (.laload, 1), (.lload_n 2, 1), (.lmul, 1)] := Jvm.Free.DS.facts 0 _ (by decide +kernel) (by decide +kernel)
theorem d_MD_laysPull_0 : decode prog_12_method_135_code 0 = .ok (.aload_n 0, 1) := F_MD_laysPull_0.1
theorem d_MD_laysPull_1 : decode prog_12_method_135_code 1 = .ok (.aload_n 0, 1) := F_MD_laysPull_0.2.1
theorem d_MD_laysPull_2 : decode prog_12_method_135_code 2 = .ok (.getfield 44, 3) := F_MD_laysPull_0.2.2.1
theorem d_MD_laysPull_5 : decode prog_12_method_135_code 5 = .ok (.iload_n 1, 1) := F_MD_laysPull_0.2.2.2.1
theorem d_MD_laysPull_6 : decode prog_12_method_135_code 6 = .ok (.invokevirtual 274, 3) := F_MD_laysPull_0.2.2.2.2.1
theorem d_MD_laysPull_9 : decode prog_12_method_135_code 9 = .ok (.aload_n 0, 1) := F_MD_laysPull_0.2.2.2.2.2.1
theorem d_MD_laysPull_10 : decode prog_12_method_135_code 10 = .ok (.aload_n 0, 1) := F_MD_laysPull_0.2.2.2.2.2.2.1
theorem d_MD_laysPull_11 : decode prog_12_method_135_code 11 = .ok (.getfield 44, 3) := F_MD_laysPull_0.2.2.2.2.2.2.2.1
theorem d_MD_laysPull_14 : decode prog_12_method_135_code 14 = .ok (.iconst 0, 1) := F_MD_laysPull_0.2.2.2.2.2.2.2.2.1
theorem d_MD_laysPull_15 : decode prog_12_method_135_code 15 = .ok (.laload, 1) := F_MD_laysPull_0.2.2.2.2.2.2.2.2.2.1
theorem d_MD_laysPull_16 : decode prog_12_method_135_code 16 = .ok (.lload_n 2, 1) := F_MD_laysPull_0.2.2.2.2.2.2.2.2.2.2.1
theorem d_MD_laysPull_17 : decode prog_12_method_135_code 17 = .ok (.lmul, 1) := F_MD_laysPull_0.2.2.2.2.2.2.2.2.2.2.2.1
theorem d_MD_laysPull_18 : decode prog_12_method_135_code 18 = .ok (.aload_n 0, 1) := F_MD_laysPull_0.2.2.2.2.2.2.2.2.2.2.2.2.1
theorem d_MD_laysPull_19 : decode prog_12_method_135_code 19 = .ok (.getfield 44, 3) := F_MD_laysPull_0.2.2.2.2.2.2.2.2.2.2.2.2.2.1
theorem d_MD_laysPull_22 : decode prog_12_method_135_code 22 = .ok (.iconst 3, 1) := F_MD_laysPull_0.2.2.2.2.2.2.2.2.2.2.2.2.2.2.1
theorem d_MD_laysPull_23 : decode prog_12_method_135_code 23 = .ok (.laload, 1) := F_MD_laysPull_0.2.2.2.2.2.2.2.2.2.2.2.2.2.2.2.1
theorem d_MD_laysPull_24 : decode prog_12_method_135_code 24 = .ok (.lload 4, 2) := F_MD_laysPull_0.2.2.2.2.2.2.2.2.2.2.2.2.2.2.2.2.1
theorem d_MD_laysPull_26 : decode prog_12_method_135_code 26 = .ok (.lmul, 1) := F_MD_laysPull_0.2.2.2.2.2.2.2.2.2.2.2.2.2.2.2.2.2.1
theorem d_MD_laysPull_27 : decode prog_12_method_135_code 27 = .ok (.ladd, 1) := F_MD_laysPull_0.2.2.2.2.2.2.2.2.2.2.2.2.2.2.2.2.2.2.1
theorem d_MD_laysPull_28 : decode prog_12_method_135_code 28 = .ok (.aload_n 0, 1) := F_MD_laysPull_0.2.2.2.2.2.2.2.2.2.2.2.2.2.2.2.2.2.2.2.1
theorem d_MD_laysPull_29 : decode prog_12_method_135_code 29 = .ok (.getfield 44, 3) := F_MD_laysPull_0.2.2.2.2.2.2.2.2.2.2.2.2.2.2.2.2.2.2.2.2.1
theorem d_MD_laysPull_32 : decode prog_12_method_135_code 32 = .ok (.bipush (6), 2) := F_MD_laysPull_0.2.2.2.2.2.2.2.2.2.2.2.2.2.2.2.2.2.2.2.2.2.1
theorem d_MD_laysPull_34 : decode prog_12_method_135_code 34 = .ok (.laload, 1) := F_MD_laysPull_0.2.2.2.2.2.2.2.2.2.2.2.2.2.2.2.2.2.2.2.2.2.2.1
theorem d_MD_laysPull_35 : decode prog_12_method_135_code 35 = .ok (.lload 6, 2) := F_MD_laysPull_0.2.2.2.2.2.2.2.2.2.2.2.2.2.2.2.2.2.2.2.2.2.2.2.1
theorem d_MD_laysPull_37 : decode prog_12_method_135_code 37 = .ok (.lmul, 1) := F_MD_laysPull_0.2.2.2.2.2.2.2.2.2.2.2.2.2.2.2.2.2.2.2.2.2.2.2.2.1
theorem d_MD_laysPull_38 : decode prog_12_method_135_code 38 = .ok (.ladd, 1) := F_MD_laysPull_0.2.2.2.2.2.2.2.2.2.2.2.2.2.2.2.2.2.2.2.2.2.2.2.2.2.1
theorem d_MD_laysPull_39 : decode prog_12_method_135_code 39 = .ok (.aload_n 0, 1) := F_MD_laysPull_0.2.2.2.2.2.2.2.2.2.2.2.2.2.2.2.2.2.2.2.2.2.2.2.2.2.2.1
theorem d_MD_laysPull_40 : decode prog_12_method_135_code 40 = .ok (.getfield 44, 3) := F_MD_laysPull_0.2.2.2.2.2.2.2.2.2.2.2.2.2.2.2.2.2.2.2.2.2.2.2.2.2.2.2.1
theorem d_MD_laysPull_43 : decode prog_12_method_135_code 43 = .ok (.iconst 1, 1) := F_MD_laysPull_0.2.2.2.2.2.2.2.2.2.2.2.2.2.2.2.2.2.2.2.2.2.2.2.2.2.2.2.2.1
theorem d_MD_laysPull_44 : decode prog_12_method_135_code 44 = .ok (.laload, 1) := F_MD_laysPull_0.2.2.2.2.2.2.2.2.2.2.2.2.2.2.2.2.2.2.2.2.2.2.2.2.2.2.2.2.2.1
theorem d_MD_laysPull_45 : decode prog_12_method_135_code 45 = .ok (.lload_n 2, 1) := F_MD_laysPull_0.2.2.2.2.2.2.2.2.2.2.2.2.2.2.2.2.2.2.2.2.2.2.2.2.2.2.2.2.2.2.1
theorem d_MD_laysPull_46 : decode prog_12_method_135_code 46 = .ok (.lmul, 1) := F_MD_laysPull_0.2.2.2.2.2.2.2.2.2.2.2.2.2.2.2.2.2.2.2.2.2.2.2.2.2.2.2.2.2.2.2.1
theorem F_MD_laysPull_47 : Jvm.Free.DS.Facts prog_12_method_135_code 47 [(.aload_n 0, 1), (.getfield 44, 3), (.iconst 4, 1), (.laload, 1), (.lload 4, 2), (.lmul, 1), (.ladd, 1), (.aload_n 0, 1), (.getfield 44, 3), (.bipush (7), 2), (.laload, 1), (.lload 6, 2), (.lmul, 1), (.ladd, 1), (.aload_n 0, 1), (.getfield 44, 3), (.iconst 2, 1), (.laload, 1), (.lload_n 2, 1), (.lmul, 1), (.aload_n 0, 1), (.getfield 44, 3), (.iconst 5, 1), (.laload, 1), (.lload 4, 2), (.lmul, 1), (.ladd, 1), (.aload_n 0, 1), (.getfield 44, 3), (.bipush (8), 2), (.laload, 1), (.lload 6, 2)] := Jvm.Free.DS.facts 47 _ (by decide +kernel) (by decide +kernel)
theorem d_MD_laysPull_47 : decode prog_12_method_135_code 47 = .ok (.aload_n 0, 1) := F_MD_laysPull_47.1
theorem d_MD_laysPull_48 : decode prog_12_method_135_code 48 = .ok (.getfield 44, 3) := F_MD_laysPull_47.2.1
theorem d_MD_laysPull_51 : decode prog_12_method_135_code 51 = .ok (.iconst 4, 1) := F_MD_laysPull_47.2.2.1
theorem d_MD_laysPull_52 : decode prog_12_method_135_code 52 = .ok (.laload, 1) := F_MD_laysPull_47.2.2.2.1
theorem d_MD_laysPull_53 : decode prog_12_method_135_code 53 = .ok (.lload 4, 2) := F_MD_laysPull_47.2.2.2.2.1
theorem d_MD_laysPull_55 : decode prog_12_method_135_code 55 = .ok (.lmul, 1) := F_MD_laysPull_47.2.2.2.2.2.1
theorem d_MD_laysPull_56 : decode prog_12_method_135_code 56 = .ok (.ladd, 1) := F_MD_laysPull_47.2.2.2.2.2.2.1
theorem d_MD_laysPull_57 : decode prog_12_method_135_code 57 = .ok (.aload_n 0, 1) := F_MD_laysPull_47.2.2.2.2.2.2.2.1
theorem d_MD_laysPull_58 : decode prog_12_method_135_code 58 = .ok (.getfield 44, 3) := F_MD_laysPull_47.2.2.2.2.2.2.2.2.1
theorem d_MD_laysPull_61 : decode prog_12_method_135_code 61 = .ok (.bipush (7), 2) := F_MD_laysPull_47.2.2.2.2.2.2.2.2.2.1
theorem d_MD_laysPull_63 : decode prog_12_method_135_code 63 = .ok (.laload, 1) := F_MD_laysPull_47.2.2.2.2.2.2.2.2.2.2.1
theorem d_MD_laysPull_64 : decode prog_12_method_135_code 64 = .ok (.lload 6, 2) := F_MD_laysPull_47.2.2.2.2.2.2.2.2.2.2.2.1
theorem d_MD_laysPull_66 : decode prog_12_method_135_code 66 = .ok (.lmul, 1) := F_MD_laysPull_47.2.2.2.2.2.2.2.2.2.2.2.2.1
theorem d_MD_laysPull_67 : decode prog_12_method_135_code 67 = .ok (.ladd, 1) := F_MD_laysPull_47.2.2.2.2.2.2.2.2.2.2.2.2.2.1
theorem d_MD_laysPull_68 : decode prog_12_method_135_code 68 = .ok (.aload_n 0, 1) := F_MD_laysPull_47.2.2.2.2.2.2.2.2.2.2.2.2.2.2.1
theorem d_MD_laysPull_69 : decode prog_12_method_135_code 69 = .ok (.getfield 44, 3) := F_MD_laysPull_47.2.2.2.2.2.2.2.2.2.2.2.2.2.2.2.1
theorem d_MD_laysPull_72 : decode prog_12_method_135_code 72 = .ok (.iconst 2, 1) := F_MD_laysPull_47.2.2.2.2.2.2.2.2.2.2.2.2.2.2.2.2.1
theorem d_MD_laysPull_73 : decode prog_12_method_135_code 73 = .ok (.laload, 1) := F_MD_laysPull_47.2.2.2.2.2.2.2.2.2.2.2.2.2.2.2.2.2.1
theorem d_MD_laysPull_74 : decode prog_12_method_135_code 74 = .ok (.lload_n 2, 1) := F_MD_laysPull_47.2.2.2.2.2.2.2.2.2.2.2.2.2.2.2.2.2.2.1
theorem d_MD_laysPull_75 : decode prog_12_method_135_code 75 = .ok (.lmul, 1) := F_MD_laysPull_47.2.2.2.2.2.2.2.2.2.2.2.2.2.2.2.2.2.2.2.1
theorem d_MD_laysPull_76 : decode prog_12_method_135_code 76 = .ok (.aload_n 0, 1) := F_MD_laysPull_47.2.2.2.2.2.2.2.2.2.2.2.2.2.2.2.2.2.2.2.2.1
theorem d_MD_laysPull_77 : decode prog_12_method_135_code 77 = .ok (.getfield 44, 3) := F_MD_laysPull_47.2.2.2.2.2.2.2.2.2.2.2.2.2.2.2.2.2.2.2.2.2.1
theorem d_MD_laysPull_80 : decode prog_12_method_135_code 80 = .ok (.iconst 5, 1) := F_MD_laysPull_47.2.2.2.2.2.2.2.2.2.2.2.2.2.2.2.2.2.2.2.2.2.2.1
theorem d_MD_laysPull_81 : decode prog_12_method_135_code 81 = .ok (.laload, 1) := F_MD_laysPull_47.2.2.2.2.2.2.2.2.2.2.2.2.2.2.2.2.2.2.2.2.2.2.2.1
theorem d_MD_laysPull_82 : decode prog_12_method_135_code 82 = .ok (.lload 4, 2) := F_MD_laysPull_47.2.2.2.2.2.2.2.2.2.2.2.2.2.2.2.2.2.2.2.2.2.2.2.2.1
theorem d_MD_laysPull_84 : decode prog_12_method_135_code 84 = .ok (.lmul, 1) := F_MD_laysPull_47.2.2.2.2.2.2.2.2.2.2.2.2.2.2.2.2.2.2.2.2.2.2.2.2.2.1
theorem d_MD_laysPull_85 : decode prog_12_method_135_code 85 = .ok (.ladd, 1) := F_MD_laysPull_47.2.2.2.2.2.2.2.2.2.2.2.2.2.2.2.2.2.2.2.2.2.2.2.2.2.2.1
theorem d_MD_laysPull_86 : decode prog_12_method_135_code 86 = .ok (.aload_n 0, 1) := F_MD_laysPull_47.2.2.2.2.2.2.2.2.2.2.2.2.2.2.2.2.2.2.2.2.2.2.2.2.2.2.2.1
theorem d_MD_laysPull_87 : decode prog_12_method_135_code 87 = .ok (.getfield 44, 3) := F_MD_laysPull_47.2.2.2.2.2.2.2.2.2.2.2.2.2.2.2.2.2.2.2.2.2.2.2.2.2.2.2.2.1
theorem d_MD_laysPull_90 : decode prog_12_method_135_code 90 = .ok (.bipush (8), 2) := F_MD_laysPull_47.2.2.2.2.2.2.2.2.2.2.2.2.2.2.2.2.2.2.2.2.2.2.2.2.2.2.2.2.2.1
theorem d_MD_laysPull_92 : decode prog_12_method_135_code 92 = .ok (.laload, 1) := F_MD_laysPull_47.2.2.2.2.2.2.2.2.2.2.2.2.2.2.2.2.2.2.2.2.2.2.2.2.2.2.2.2.2.2.1
theorem d_MD_laysPull_93 : decode prog_12_method_135_code 93 = .ok (.lload 6, 2) := F_MD_laysPull_47.2.2.2.2.2.2.2.2.2.2.2.2.2.2.2.2.2.2.2.2.2.2.2.2.2.2.2.2.2.2.2.1
theorem F_MD_laysPull_95 : Jvm.Free.DS.Facts prog_12_method_135_code 95 [(.lmul, 1), (.ladd, 1), (.invokevirtual 179, 3), (.return_, 1)] := Jvm.Free.DS.facts 95 _ (by decide +kernel) (by decide +kernel)
theorem d_MD_laysPull_95 : decode prog_12_method_135_code 95 = .ok (.lmul, 1) := F_MD_laysPull_95.1
theorem d_MD_laysPull_96 : decode prog_12_method_135_code 96 = .ok (.ladd, 1) := F_MD_laysPull_95.2.1
theorem d_MD_laysPull_97 : decode prog_12_method_135_code 97 = .ok (.invokevirtual 179, 3) := F_MD_laysPull_95.2.2.1
theorem d_MD_laysPull_100 : decode prog_12_method_135_code 100 = .ok (.return_, 1) := F_MD_laysPull_95.2.2.2.1
theorem F_MD_keepsLine_0 : Jvm.Free.DS.Facts prog_12_method_137_code 0 [(.aload_n 0, 1), (.iconst 0, 1), (.putfield 74, 3), (.aload_n 0, 1), (.iload_n 1, 1), (.invokevirtual 241, 3), (.ifCond .eq (13), 3), (.iload_n 2, 1), (.iload_n 3, 1), (.iload 4, 2), (.invokestatic 303, 3), (.ifCond .ne (5), 3), (.iconst (-1), 1), (.ireturn, 1), (.aload_n 0, 1), (.iload_n 1, 1), (.iload_n 2, 1), (.i2l, 1), (.iload_n 3, 1), (.i2l, 1), (.iload 4, 2), (.i2l, 1), (.invokevirtual 449, 3), (.aload_n 0, 1), (.getfield 53, 3), (.iconst 0, 1), (.iload_n 2, 1), (.i2l, 1), (.lastore, 1), (.aload_n 0, 1), (.getfield 53, 3), (.iconst 1, 1)] := Jvm.Free.DS.facts 0 _ (by decide +kernel) (by decide +kernel)
theorem d_MD_keepsLine_0 : decode prog_12_method_137_code 0 = .ok (.aload_n 0, 1) := F_MD_keepsLine_0.1
theorem d_MD_keepsLine_1 : decode prog_12_method_137_code 1 = .ok (.iconst 0, 1) := F_MD_keepsLine_0.2.1
theorem d_MD_keepsLine_2 : decode prog_12_method_137_code 2 = .ok (.putfield 74, 3) := F_MD_keepsLine_0.2.2.1
theorem d_MD_keepsLine_5 : decode prog_12_method_137_code 5 = .ok (.aload_n 0, 1) := F_MD_keepsLine_0.2.2.2.1
theorem d_MD_keepsLine_6 : decode prog_12_method_137_code 6 = .ok (.iload_n 1, 1) := F_MD_keepsLine_0.2.2.2.2.1
theorem d_MD_keepsLine_7 : decode prog_12_method_137_code 7 = .ok (.invokevirtual 241, 3) := F_MD_keepsLine_0.2.2.2.2.2.1
theorem d_MD_keepsLine_10 : decode prog_12_method_137_code 10 = .ok (.ifCond .eq (13), 3) := F_MD_keepsLine_0.2.2.2.2.2.2.1
theorem d_MD_keepsLine_13 : decode prog_12_method_137_code 13 = .ok (.iload_n 2, 1) := F_MD_keepsLine_0.2.2.2.2.2.2.2.1
theorem d_MD_keepsLine_14 : decode prog_12_method_137_code 14 = .ok (.iload_n 3, 1) := F_MD_keepsLine_0.2.2.2.2.2.2.2.2.1
theorem d_MD_keepsLine_15 : decode prog_12_method_137_code 15 = .ok (.iload 4, 2) := F_MD_keepsLine_0.2.2.2.2.2.2.2.2.2.1
theorem d_MD_keepsLine_17 : decode prog_12_method_137_code 17 = .ok (.invokestatic 303, 3) := F_MD_keepsLine_0.2.2.2.2.2.2.2.2.2.2.1
theorem d_MD_keepsLine_20 : decode prog_12_method_137_code 20 = .ok (.ifCond .ne (5), 3) := F_MD_keepsLine_0.2.2.2.2.2.2.2.2.2.2.2.1
theorem d_MD_keepsLine_23 : decode prog_12_method_137_code 23 = .ok (.iconst (-1), 1) := F_MD_keepsLine_0.2.2.2.2.2.2.2.2.2.2.2.2.1
theorem d_MD_keepsLine_24 : decode prog_12_method_137_code 24 = .ok (.ireturn, 1) := F_MD_keepsLine_0.2.2.2.2.2.2.2.2.2.2.2.2.2.1
theorem d_MD_keepsLine_25 : decode prog_12_method_137_code 25 = .ok (.aload_n 0, 1) := F_MD_keepsLine_0.2.2.2.2.2.2.2.2.2.2.2.2.2.2.1
theorem d_MD_keepsLine_26 : decode prog_12_method_137_code 26 = .ok (.iload_n 1, 1) := F_MD_keepsLine_0.2.2.2.2.2.2.2.2.2.2.2.2.2.2.2.1
theorem d_MD_keepsLine_27 : decode prog_12_method_137_code 27 = .ok (.iload_n 2, 1) := F_MD_keepsLine_0.2.2.2.2.2.2.2.2.2.2.2.2.2.2.2.2.1
theorem d_MD_keepsLine_28 : decode prog_12_method_137_code 28 = .ok (.i2l, 1) := F_MD_keepsLine_0.2.2.2.2.2.2.2.2.2.2.2.2.2.2.2.2.2.1
theorem d_MD_keepsLine_29 : decode prog_12_method_137_code 29 = .ok (.iload_n 3, 1) := F_MD_keepsLine_0.2.2.2.2.2.2.2.2.2.2.2.2.2.2.2.2.2.2.1
theorem d_MD_keepsLine_30 : decode prog_12_method_137_code 30 = .ok (.i2l, 1) := F_MD_keepsLine_0.2.2.2.2.2.2.2.2.2.2.2.2.2.2.2.2.2.2.2.1
theorem d_MD_keepsLine_31 : decode prog_12_method_137_code 31 = .ok (.iload 4, 2) := F_MD_keepsLine_0.2.2.2.2.2.2.2.2.2.2.2.2.2.2.2.2.2.2.2.2.1
theorem d_MD_keepsLine_33 : decode prog_12_method_137_code 33 = .ok (.i2l, 1) := F_MD_keepsLine_0.2.2.2.2.2.2.2.2.2.2.2.2.2.2.2.2.2.2.2.2.2.1
theorem d_MD_keepsLine_34 : decode prog_12_method_137_code 34 = .ok (.invokevirtual 449, 3) := F_MD_keepsLine_0.2.2.2.2.2.2.2.2.2.2.2.2.2.2.2.2.2.2.2.2.2.2.1
theorem d_MD_keepsLine_37 : decode prog_12_method_137_code 37 = .ok (.aload_n 0, 1) := F_MD_keepsLine_0.2.2.2.2.2.2.2.2.2.2.2.2.2.2.2.2.2.2.2.2.2.2.2.1
theorem d_MD_keepsLine_38 : decode prog_12_method_137_code 38 = .ok (.getfield 53, 3) := F_MD_keepsLine_0.2.2.2.2.2.2.2.2.2.2.2.2.2.2.2.2.2.2.2.2.2.2.2.2.1
theorem d_MD_keepsLine_41 : decode prog_12_method_137_code 41 = .ok (.iconst 0, 1) := F_MD_keepsLine_0.2.2.2.2.2.2.2.2.2.2.2.2.2.2.2.2.2.2.2.2.2.2.2.2.2.1
theorem d_MD_keepsLine_42 : decode prog_12_method_137_code 42 = .ok (.iload_n 2, 1) := F_MD_keepsLine_0.2.2.2.2.2.2.2.2.2.2.2.2.2.2.2.2.2.2.2.2.2.2.2.2.2.2.1
theorem d_MD_keepsLine_43 : decode prog_12_method_137_code 43 = .ok (.i2l, 1) := F_MD_keepsLine_0.2.2.2.2.2.2.2.2.2.2.2.2.2.2.2.2.2.2.2.2.2.2.2.2.2.2.2.1
theorem d_MD_keepsLine_44 : decode prog_12_method_137_code 44 = .ok (.lastore, 1) := F_MD_keepsLine_0.2.2.2.2.2.2.2.2.2.2.2.2.2.2.2.2.2.2.2.2.2.2.2.2.2.2.2.2.1
theorem d_MD_keepsLine_45 : decode prog_12_method_137_code 45 = .ok (.aload_n 0, 1) := F_MD_keepsLine_0.2.2.2.2.2.2.2.2.2.2.2.2.2.2.2.2.2.2.2.2.2.2.2.2.2.2.2.2.2.1
theorem d_MD_keepsLine_46 : decode prog_12_method_137_code 46 = .ok (.getfield 53, 3) := F_MD_keepsLine_0.2.2.2.2.2.2.2.2.2.2.2.2.2.2.2.2.2.2.2.2.2.2.2.2.2.2.2.2.2.2.1
theorem d_MD_keepsLine_49 : decode prog_12_method_137_code 49 = .ok (.iconst 1, 1) := F_MD_keepsLine_0.2.2.2.2.2.2.2.2.2.2.2.2.2.2.2.2.2.2.2.2.2.2.2.2.2.2.2.2.2.2.2.1
theorem F_MD_keepsLine_50 : Jvm.Free.DS.Facts prog_12_method_137_code 50 [(.iload_n 3, 1), (.i2l, 1), (.lastore, 1), (.aload_n 0, 1), (.getfield 53, 3), (.iconst 2, 1), (.iload 4, 2), (.i2l, 1), (.lastore, 1), (.aload_n 0, 1), (.getfield 53, 3), (.invokestatic 220, 3), (.aload_n 0, 1), (.getfield 50, 3), (.iconst 0, 1), (.laload, 1), (.aload_n 0, 1), (.getfield 53, 3), (.iconst 0, 1), (.laload, 1), (.lcmp, 1), (.ifCond .ne (39), 3), (.aload_n 0, 1), (.getfield 50, 3), (.iconst 1, 1), (.laload, 1), (.aload_n 0, 1), (.getfield 53, 3), (.iconst 1, 1), (.laload, 1), (.lcmp, 1), (.ifCond .ne (23), 3)] := Jvm.Free.DS.facts 50 _ (by decide +kernel) (by decide +kernel)
theorem d_MD_keepsLine_50 : decode prog_12_method_137_code 50 = .ok (.iload_n 3, 1) := F_MD_keepsLine_50.1
theorem d_MD_keepsLine_51 : decode prog_12_method_137_code 51 = .ok (.i2l, 1) := F_MD_keepsLine_50.2.1
theorem d_MD_keepsLine_52 : decode prog_12_method_137_code 52 = .ok (.lastore, 1) := F_MD_keepsLine_50.2.2.1
theorem d_MD_keepsLine_53 : decode prog_12_method_137_code 53 = .ok (.aload_n 0, 1) := F_MD_keepsLine_50.2.2.2.1
theorem d_MD_keepsLine_54 : decode prog_12_method_137_code 54 = .ok (.getfield 53, 3) := F_MD_keepsLine_50.2.2.2.2.1
theorem d_MD_keepsLine_57 : decode prog_12_method_137_code 57 = .ok (.iconst 2, 1) := F_MD_keepsLine_50.2.2.2.2.2.1
theorem d_MD_keepsLine_58 : decode prog_12_method_137_code 58 = .ok (.iload 4, 2) := F_MD_keepsLine_50.2.2.2.2.2.2.1
theorem d_MD_keepsLine_60 : decode prog_12_method_137_code 60 = .ok (.i2l, 1) := F_MD_keepsLine_50.2.2.2.2.2.2.2.1
theorem d_MD_keepsLine_61 : decode prog_12_method_137_code 61 = .ok (.lastore, 1) := F_MD_keepsLine_50.2.2.2.2.2.2.2.2.1
theorem d_MD_keepsLine_62 : decode prog_12_method_137_code 62 = .ok (.aload_n 0, 1) := F_MD_keepsLine_50.2.2.2.2.2.2.2.2.2.1
theorem d_MD_keepsLine_63 : decode prog_12_method_137_code 63 = .ok (.getfield 53, 3) := F_MD_keepsLine_50.2.2.2.2.2.2.2.2.2.2.1
theorem d_MD_keepsLine_66 : decode prog_12_method_137_code 66 = .ok (.invokestatic 220, 3) := F_MD_keepsLine_50.2.2.2.2.2.2.2.2.2.2.2.1
theorem d_MD_keepsLine_69 : decode prog_12_method_137_code 69 = .ok (.aload_n 0, 1) := F_MD_keepsLine_50.2.2.2.2.2.2.2.2.2.2.2.2.1
theorem d_MD_keepsLine_70 : decode prog_12_method_137_code 70 = .ok (.getfield 50, 3) := F_MD_keepsLine_50.2.2.2.2.2.2.2.2.2.2.2.2.2.1
theorem d_MD_keepsLine_73 : decode prog_12_method_137_code 73 = .ok (.iconst 0, 1) := F_MD_keepsLine_50.2.2.2.2.2.2.2.2.2.2.2.2.2.2.1
theorem d_MD_keepsLine_74 : decode prog_12_method_137_code 74 = .ok (.laload, 1) := F_MD_keepsLine_50.2.2.2.2.2.2.2.2.2.2.2.2.2.2.2.1
theorem d_MD_keepsLine_75 : decode prog_12_method_137_code 75 = .ok (.aload_n 0, 1) := F_MD_keepsLine_50.2.2.2.2.2.2.2.2.2.2.2.2.2.2.2.2.1
theorem d_MD_keepsLine_76 : decode prog_12_method_137_code 76 = .ok (.getfield 53, 3) := F_MD_keepsLine_50.2.2.2.2.2.2.2.2.2.2.2.2.2.2.2.2.2.1
theorem d_MD_keepsLine_79 : decode prog_12_method_137_code 79 = .ok (.iconst 0, 1) := F_MD_keepsLine_50.2.2.2.2.2.2.2.2.2.2.2.2.2.2.2.2.2.2.1
theorem d_MD_keepsLine_80 : decode prog_12_method_137_code 80 = .ok (.laload, 1) := F_MD_keepsLine_50.2.2.2.2.2.2.2.2.2.2.2.2.2.2.2.2.2.2.2.1
theorem d_MD_keepsLine_81 : decode prog_12_method_137_code 81 = .ok (.lcmp, 1) := F_MD_keepsLine_50.2.2.2.2.2.2.2.2.2.2.2.2.2.2.2.2.2.2.2.2.1
theorem d_MD_keepsLine_82 : decode prog_12_method_137_code 82 = .ok (.ifCond .ne (39), 3) := F_MD_keepsLine_50.2.2.2.2.2.2.2.2.2.2.2.2.2.2.2.2.2.2.2.2.2.1
theorem d_MD_keepsLine_85 : decode prog_12_method_137_code 85 = .ok (.aload_n 0, 1) := F_MD_keepsLine_50.2.2.2.2.2.2.2.2.2.2.2.2.2.2.2.2.2.2.2.2.2.2.1
theorem d_MD_keepsLine_86 : decode prog_12_method_137_code 86 = .ok (.getfield 50, 3) := F_MD_keepsLine_50.2.2.2.2.2.2.2.2.2.2.2.2.2.2.2.2.2.2.2.2.2.2.2.1
theorem d_MD_keepsLine_89 : decode prog_12_method_137_code 89 = .ok (.iconst 1, 1) := F_MD_keepsLine_50.2.2.2.2.2.2.2.2.2.2.2.2.2.2.2.2.2.2.2.2.2.2.2.2.1
theorem d_MD_keepsLine_90 : decode prog_12_method_137_code 90 = .ok (.laload, 1) := F_MD_keepsLine_50.2.2.2.2.2.2.2.2.2.2.2.2.2.2.2.2.2.2.2.2.2.2.2.2.2.1
theorem d_MD_keepsLine_91 : decode prog_12_method_137_code 91 = .ok (.aload_n 0, 1) := F_MD_keepsLine_50.2.2.2.2.2.2.2.2.2.2.2.2.2.2.2.2.2.2.2.2.2.2.2.2.2.2.1
theorem d_MD_keepsLine_92 : decode prog_12_method_137_code 92 = .ok (.getfield 53, 3) := F_MD_keepsLine_50.2.2.2.2.2.2.2.2.2.2.2.2.2.2.2.2.2.2.2.2.2.2.2.2.2.2.2.1
theorem d_MD_keepsLine_95 : decode prog_12_method_137_code 95 = .ok (.iconst 1, 1) := F_MD_keepsLine_50.2.2.2.2.2.2.2.2.2.2.2.2.2.2.2.2.2.2.2.2.2.2.2.2.2.2.2.2.1
theorem d_MD_keepsLine_96 : decode prog_12_method_137_code 96 = .ok (.laload, 1) := F_MD_keepsLine_50.2.2.2.2.2.2.2.2.2.2.2.2.2.2.2.2.2.2.2.2.2.2.2.2.2.2.2.2.2.1
theorem d_MD_keepsLine_97 : decode prog_12_method_137_code 97 = .ok (.lcmp, 1) := F_MD_keepsLine_50.2.2.2.2.2.2.2.2.2.2.2.2.2.2.2.2.2.2.2.2.2.2.2.2.2.2.2.2.2.2.1
theorem d_MD_keepsLine_98 : decode prog_12_method_137_code 98 = .ok (.ifCond .ne (23), 3) := F_MD_keepsLine_50.2.2.2.2.2.2.2.2.2.2.2.2.2.2.2.2.2.2.2.2.2.2.2.2.2.2.2.2.2.2.2.1
theorem F_MD_keepsLine_101 : Jvm.Free.DS.Facts prog_12_method_137_code 101 [(.aload_n 0, 1), (.getfield 50, 3), (.iconst 2, 1), (.laload, 1), (.aload_n 0, 1), (.getfield 53, 3), (.iconst 2, 1), (.laload, 1), (.lcmp, 1), (.ifCond .ne (7), 3), (.iconst 1, 1), (.goto (4), 3), (.iconst 0, 1), (.ireturn, 1)] := Jvm.Free.DS.facts 101 _ (by decide +kernel) (by decide +kernel)
theorem d_MD_keepsLine_101 : decode prog_12_method_137_code 101 = .ok (.aload_n 0, 1) := F_MD_keepsLine_101.1
theorem d_MD_keepsLine_102 : decode prog_12_method_137_code 102 = .ok (.getfield 50, 3) := F_MD_keepsLine_101.2.1
theorem d_MD_keepsLine_105 : decode prog_12_method_137_code 105 = .ok (.iconst 2, 1) := F_MD_keepsLine_101.2.2.1
theorem d_MD_keepsLine_106 : decode prog_12_method_137_code 106 = .ok (.laload, 1) := F_MD_keepsLine_101.2.2.2.1
theorem d_MD_keepsLine_107 : decode prog_12_method_137_code 107 = .ok (.aload_n 0, 1) := F_MD_keepsLine_101.2.2.2.2.1
theorem d_MD_keepsLine_108 : decode prog_12_method_137_code 108 = .ok (.getfield 53, 3) := F_MD_keepsLine_101.2.2.2.2.2.1
theorem d_MD_keepsLine_111 : decode prog_12_method_137_code 111 = .ok (.iconst 2, 1) := F_MD_keepsLine_101.2.2.2.2.2.2.1
theorem d_MD_keepsLine_112 : decode prog_12_method_137_code 112 = .ok (.laload, 1) := F_MD_keepsLine_101.2.2.2.2.2.2.2.1
theorem d_MD_keepsLine_113 : decode prog_12_method_137_code 113 = .ok (.lcmp, 1) := F_MD_keepsLine_101.2.2.2.2.2.2.2.2.1
theorem d_MD_keepsLine_114 : decode prog_12_method_137_code 114 = .ok (.ifCond .ne (7), 3) := F_MD_keepsLine_101.2.2.2.2.2.2.2.2.2.1
theorem d_MD_keepsLine_117 : decode prog_12_method_137_code 117 = .ok (.iconst 1, 1) := F_MD_keepsLine_101.2.2.2.2.2.2.2.2.2.2.1
theorem d_MD_keepsLine_118 : decode prog_12_method_137_code 118 = .ok (.goto (4), 3) := F_MD_keepsLine_101.2.2.2.2.2.2.2.2.2.2.2.1
theorem d_MD_keepsLine_121 : decode prog_12_method_137_code 121 = .ok (.iconst 0, 1) := F_MD_keepsLine_101.2.2.2.2.2.2.2.2.2.2.2.2.1
theorem d_MD_keepsLine_122 : decode prog_12_method_137_code 122 = .ok (.ireturn, 1) := F_MD_keepsLine_101.2.2.2.2.2.2.2.2.2.2.2.2.2.1
theorem F_MD_side_0 : Jvm.Free.DS.Facts prog_12_method_138_code 0 [(.aload_n 0, 1), (.iconst 0, 1), (.putfield 74, 3), (.aload_n 0, 1), (.iload_n 1, 1), (.invokevirtual 238, 3), (.ifCond .eq (19), 3), (.iload_n 2, 1), (.ifCond .lt (15), 3), (.iload_n 2, 1), (.iconst 3, 1), (.if_icmp .gt (10), 3), (.iload_n 3, 1), (.invokestatic 244, 3), (.ifCond .ne (7), 3), (.ldc2_w 307, 3), (.lreturn, 1), (.aload_n 0, 1), (.aload_n 0, 1), (.getfield 50, 3), (.iload_n 1, 1), (.iload_n 2, 1), (.iload_n 2, 1), (.iconst 1, 1), (.iadd, 1), (.iconst 4, 1), (.irem, 1), (.invokevirtual 400, 3), (.aload_n 0, 1), (.getfield 50, 3), (.invokestatic 220, 3), (.aload_n 0, 1)] := Jvm.Free.DS.facts 0 _ (by decide +kernel) (by decide +kernel)
theorem d_MD_side_0 : decode prog_12_method_138_code 0 = .ok (.aload_n 0, 1) := F_MD_side_0.1
theorem d_MD_side_1 : decode prog_12_method_138_code 1 = .ok (.iconst 0, 1) := F_MD_side_0.2.1
theorem d_MD_side_2 : decode prog_12_method_138_code 2 = .ok (.putfield 74, 3) := F_MD_side_0.2.2.1
theorem d_MD_side_5 : decode prog_12_method_138_code 5 = .ok (.aload_n 0, 1) := F_MD_side_0.2.2.2.1
theorem d_MD_side_6 : decode prog_12_method_138_code 6 = .ok (.iload_n 1, 1) := F_MD_side_0.2.2.2.2.1
theorem d_MD_side_7 : decode prog_12_method_138_code 7 = .ok (.invokevirtual 238, 3) := F_MD_side_0.2.2.2.2.2.1
theorem d_MD_side_10 : decode prog_12_method_138_code 10 = .ok (.ifCond .eq (19), 3) := F_MD_side_0.2.2.2.2.2.2.1
theorem d_MD_side_13 : decode prog_12_method_138_code 13 = .ok (.iload_n 2, 1) := F_MD_side_0.2.2.2.2.2.2.2.1
theorem d_MD_side_14 : decode prog_12_method_138_code 14 = .ok (.ifCond .lt (15), 3) := F_MD_side_0.2.2.2.2.2.2.2.2.1
theorem d_MD_side_17 : decode prog_12_method_138_code 17 = .ok (.iload_n 2, 1) := F_MD_side_0.2.2.2.2.2.2.2.2.2.1
theorem d_MD_side_18 : decode prog_12_method_138_code 18 = .ok (.iconst 3, 1) := F_MD_side_0.2.2.2.2.2.2.2.2.2.2.1
theorem d_MD_side_19 : decode prog_12_method_138_code 19 = .ok (.if_icmp .gt (10), 3) := F_MD_side_0.2.2.2.2.2.2.2.2.2.2.2.1
theorem d_MD_side_22 : decode prog_12_method_138_code 22 = .ok (.iload_n 3, 1) := F_MD_side_0.2.2.2.2.2.2.2.2.2.2.2.2.1
theorem d_MD_side_23 : decode prog_12_method_138_code 23 = .ok (.invokestatic 244, 3) := F_MD_side_0.2.2.2.2.2.2.2.2.2.2.2.2.2.1
theorem d_MD_side_26 : decode prog_12_method_138_code 26 = .ok (.ifCond .ne (7), 3) := F_MD_side_0.2.2.2.2.2.2.2.2.2.2.2.2.2.2.1
theorem d_MD_side_29 : decode prog_12_method_138_code 29 = .ok (.ldc2_w 307, 3) := F_MD_side_0.2.2.2.2.2.2.2.2.2.2.2.2.2.2.2.1
theorem d_MD_side_32 : decode prog_12_method_138_code 32 = .ok (.lreturn, 1) := F_MD_side_0.2.2.2.2.2.2.2.2.2.2.2.2.2.2.2.2.1
theorem d_MD_side_33 : decode prog_12_method_138_code 33 = .ok (.aload_n 0, 1) := F_MD_side_0.2.2.2.2.2.2.2.2.2.2.2.2.2.2.2.2.2.1
theorem d_MD_side_34 : decode prog_12_method_138_code 34 = .ok (.aload_n 0, 1) := F_MD_side_0.2.2.2.2.2.2.2.2.2.2.2.2.2.2.2.2.2.2.1
theorem d_MD_side_35 : decode prog_12_method_138_code 35 = .ok (.getfield 50, 3) := F_MD_side_0.2.2.2.2.2.2.2.2.2.2.2.2.2.2.2.2.2.2.2.1
theorem d_MD_side_38 : decode prog_12_method_138_code 38 = .ok (.iload_n 1, 1) := F_MD_side_0.2.2.2.2.2.2.2.2.2.2.2.2.2.2.2.2.2.2.2.2.1
theorem d_MD_side_39 : decode prog_12_method_138_code 39 = .ok (.iload_n 2, 1) := F_MD_side_0.2.2.2.2.2.2.2.2.2.2.2.2.2.2.2.2.2.2.2.2.2.1
theorem d_MD_side_40 : decode prog_12_method_138_code 40 = .ok (.iload_n 2, 1) := F_MD_side_0.2.2.2.2.2.2.2.2.2.2.2.2.2.2.2.2.2.2.2.2.2.2.1
theorem d_MD_side_41 : decode prog_12_method_138_code 41 = .ok (.iconst 1, 1) := F_MD_side_0.2.2.2.2.2.2.2.2.2.2.2.2.2.2.2.2.2.2.2.2.2.2.2.1
theorem d_MD_side_42 : decode prog_12_method_138_code 42 = .ok (.iadd, 1) := F_MD_side_0.2.2.2.2.2.2.2.2.2.2.2.2.2.2.2.2.2.2.2.2.2.2.2.2.1
theorem d_MD_side_43 : decode prog_12_method_138_code 43 = .ok (.iconst 4, 1) := F_MD_side_0.2.2.2.2.2.2.2.2.2.2.2.2.2.2.2.2.2.2.2.2.2.2.2.2.2.1
theorem d_MD_side_44 : decode prog_12_method_138_code 44 = .ok (.irem, 1) := F_MD_side_0.2.2.2.2.2.2.2.2.2.2.2.2.2.2.2.2.2.2.2.2.2.2.2.2.2.2.1
theorem d_MD_side_45 : decode prog_12_method_138_code 45 = .ok (.invokevirtual 400, 3) := F_MD_side_0.2.2.2.2.2.2.2.2.2.2.2.2.2.2.2.2.2.2.2.2.2.2.2.2.2.2.2.1
theorem d_MD_side_48 : decode prog_12_method_138_code 48 = .ok (.aload_n 0, 1) := F_MD_side_0.2.2.2.2.2.2.2.2.2.2.2.2.2.2.2.2.2.2.2.2.2.2.2.2.2.2.2.2.1
theorem d_MD_side_49 : decode prog_12_method_138_code 49 = .ok (.getfield 50, 3) := F_MD_side_0.2.2.2.2.2.2.2.2.2.2.2.2.2.2.2.2.2.2.2.2.2.2.2.2.2.2.2.2.2.1
theorem d_MD_side_52 : decode prog_12_method_138_code 52 = .ok (.invokestatic 220, 3) := F_MD_side_0.2.2.2.2.2.2.2.2.2.2.2.2.2.2.2.2.2.2.2.2.2.2.2.2.2.2.2.2.2.2.1
theorem d_MD_side_55 : decode prog_12_method_138_code 55 = .ok (.aload_n 0, 1) := F_MD_side_0.2.2.2.2.2.2.2.2.2.2.2.2.2.2.2.2.2.2.2.2.2.2.2.2.2.2.2.2.2.2.2.1
theorem F_MD_side_56 : Jvm.Free.DS.Facts prog_12_method_138_code 56 [(.getfield 50, 3), (.iload_n 3, 1), (.laload, 1), (.lreturn, 1)] := Jvm.Free.DS.facts 56 _ (by decide +kernel) (by decide +kernel)
theorem d_MD_side_56 : decode prog_12_method_138_code 56 = .ok (.getfield 50, 3) := F_MD_side_56.1
theorem d_MD_side_59 : decode prog_12_method_138_code 59 = .ok (.iload_n 3, 1) := F_MD_side_56.2.1
theorem d_MD_side_60 : decode prog_12_method_138_code 60 = .ok (.laload, 1) := F_MD_side_56.2.2.1
theorem d_MD_side_61 : decode prog_12_method_138_code 61 = .ok (.lreturn, 1) := F_MD_side_56.2.2.2.1
theorem F_MD_turnOf_0 : Jvm.Free.DS.Facts prog_12_method_140_code 0 [(.aload_n 0, 1), (.iconst 0, 1), (.putfield 74, 3), (.aload_n 0, 1), (.iload_n 1, 1), (.invokevirtual 247, 3), (.ifCond .eq (19), 3), (.aload_n 0, 1), (.iload_n 2, 1), (.invokevirtual 247, 3), (.ifCond .eq (11), 3), (.aload_n 0, 1), (.iload_n 3, 1), (.invokevirtual 247, 3), (.ifCond .ne (6), 3), (.bipush (-3), 2), (.ireturn, 1), (.aload_n 0, 1), (.iload_n 1, 1), (.invokevirtual 453, 3), (.ifCond .eq (19), 3), (.aload_n 0, 1), (.iload_n 2, 1), (.invokevirtual 453, 3), (.ifCond .eq (11), 3), (.aload_n 0, 1), (.iload_n 3, 1), (.invokevirtual 453, 3), (.ifCond .ne (6), 3), (.bipush (-2), 2), (.ireturn, 1), (.aload_n 0, 1)] := Jvm.Free.DS.facts 0 _ (by decide +kernel) (by decide +kernel)
theorem d_MD_turnOf_0 : decode prog_12_method_140_code 0 = .ok (.aload_n 0, 1) := F_MD_turnOf_0.1
theorem d_MD_turnOf_1 : decode prog_12_method_140_code 1 = .ok (.iconst 0, 1) := F_MD_turnOf_0.2.1
theorem d_MD_turnOf_2 : decode prog_12_method_140_code 2 = .ok (.putfield 74, 3) := F_MD_turnOf_0.2.2.1
theorem d_MD_turnOf_5 : decode prog_12_method_140_code 5 = .ok (.aload_n 0, 1) := F_MD_turnOf_0.2.2.2.1
theorem d_MD_turnOf_6 : decode prog_12_method_140_code 6 = .ok (.iload_n 1, 1) := F_MD_turnOf_0.2.2.2.2.1
theorem d_MD_turnOf_7 : decode prog_12_method_140_code 7 = .ok (.invokevirtual 247, 3) := F_MD_turnOf_0.2.2.2.2.2.1
theorem d_MD_turnOf_10 : decode prog_12_method_140_code 10 = .ok (.ifCond .eq (19), 3) := F_MD_turnOf_0.2.2.2.2.2.2.1
theorem d_MD_turnOf_13 : decode prog_12_method_140_code 13 = .ok (.aload_n 0, 1) := F_MD_turnOf_0.2.2.2.2.2.2.2.1
theorem d_MD_turnOf_14 : decode prog_12_method_140_code 14 = .ok (.iload_n 2, 1) := F_MD_turnOf_0.2.2.2.2.2.2.2.2.1
theorem d_MD_turnOf_15 : decode prog_12_method_140_code 15 = .ok (.invokevirtual 247, 3) := F_MD_turnOf_0.2.2.2.2.2.2.2.2.2.1
theorem d_MD_turnOf_18 : decode prog_12_method_140_code 18 = .ok (.ifCond .eq (11), 3) := F_MD_turnOf_0.2.2.2.2.2.2.2.2.2.2.1
theorem d_MD_turnOf_21 : decode prog_12_method_140_code 21 = .ok (.aload_n 0, 1) := F_MD_turnOf_0.2.2.2.2.2.2.2.2.2.2.2.1
theorem d_MD_turnOf_22 : decode prog_12_method_140_code 22 = .ok (.iload_n 3, 1) := F_MD_turnOf_0.2.2.2.2.2.2.2.2.2.2.2.2.1
theorem d_MD_turnOf_23 : decode prog_12_method_140_code 23 = .ok (.invokevirtual 247, 3) := F_MD_turnOf_0.2.2.2.2.2.2.2.2.2.2.2.2.2.1
theorem d_MD_turnOf_26 : decode prog_12_method_140_code 26 = .ok (.ifCond .ne (6), 3) := F_MD_turnOf_0.2.2.2.2.2.2.2.2.2.2.2.2.2.2.1
theorem d_MD_turnOf_29 : decode prog_12_method_140_code 29 = .ok (.bipush (-3), 2) := F_MD_turnOf_0.2.2.2.2.2.2.2.2.2.2.2.2.2.2.2.1
theorem d_MD_turnOf_31 : decode prog_12_method_140_code 31 = .ok (.ireturn, 1) := F_MD_turnOf_0.2.2.2.2.2.2.2.2.2.2.2.2.2.2.2.2.1
theorem d_MD_turnOf_32 : decode prog_12_method_140_code 32 = .ok (.aload_n 0, 1) := F_MD_turnOf_0.2.2.2.2.2.2.2.2.2.2.2.2.2.2.2.2.2.1
theorem d_MD_turnOf_33 : decode prog_12_method_140_code 33 = .ok (.iload_n 1, 1) := F_MD_turnOf_0.2.2.2.2.2.2.2.2.2.2.2.2.2.2.2.2.2.2.1
theorem d_MD_turnOf_34 : decode prog_12_method_140_code 34 = .ok (.invokevirtual 453, 3) := F_MD_turnOf_0.2.2.2.2.2.2.2.2.2.2.2.2.2.2.2.2.2.2.2.1
theorem d_MD_turnOf_37 : decode prog_12_method_140_code 37 = .ok (.ifCond .eq (19), 3) := F_MD_turnOf_0.2.2.2.2.2.2.2.2.2.2.2.2.2.2.2.2.2.2.2.2.1
theorem d_MD_turnOf_40 : decode prog_12_method_140_code 40 = .ok (.aload_n 0, 1) := F_MD_turnOf_0.2.2.2.2.2.2.2.2.2.2.2.2.2.2.2.2.2.2.2.2.2.1
theorem d_MD_turnOf_41 : decode prog_12_method_140_code 41 = .ok (.iload_n 2, 1) := F_MD_turnOf_0.2.2.2.2.2.2.2.2.2.2.2.2.2.2.2.2.2.2.2.2.2.2.1
theorem d_MD_turnOf_42 : decode prog_12_method_140_code 42 = .ok (.invokevirtual 453, 3) := F_MD_turnOf_0.2.2.2.2.2.2.2.2.2.2.2.2.2.2.2.2.2.2.2.2.2.2.2.1
theorem d_MD_turnOf_45 : decode prog_12_method_140_code 45 = .ok (.ifCond .eq (11), 3) := F_MD_turnOf_0.2.2.2.2.2.2.2.2.2.2.2.2.2.2.2.2.2.2.2.2.2.2.2.2.1
theorem d_MD_turnOf_48 : decode prog_12_method_140_code 48 = .ok (.aload_n 0, 1) := F_MD_turnOf_0.2.2.2.2.2.2.2.2.2.2.2.2.2.2.2.2.2.2.2.2.2.2.2.2.2.1
theorem d_MD_turnOf_49 : decode prog_12_method_140_code 49 = .ok (.iload_n 3, 1) := F_MD_turnOf_0.2.2.2.2.2.2.2.2.2.2.2.2.2.2.2.2.2.2.2.2.2.2.2.2.2.2.1
theorem d_MD_turnOf_50 : decode prog_12_method_140_code 50 = .ok (.invokevirtual 453, 3) := F_MD_turnOf_0.2.2.2.2.2.2.2.2.2.2.2.2.2.2.2.2.2.2.2.2.2.2.2.2.2.2.2.1
theorem d_MD_turnOf_53 : decode prog_12_method_140_code 53 = .ok (.ifCond .ne (6), 3) := F_MD_turnOf_0.2.2.2.2.2.2.2.2.2.2.2.2.2.2.2.2.2.2.2.2.2.2.2.2.2.2.2.2.1
theorem d_MD_turnOf_56 : decode prog_12_method_140_code 56 = .ok (.bipush (-2), 2) := F_MD_turnOf_0.2.2.2.2.2.2.2.2.2.2.2.2.2.2.2.2.2.2.2.2.2.2.2.2.2.2.2.2.2.1
theorem d_MD_turnOf_58 : decode prog_12_method_140_code 58 = .ok (.ireturn, 1) := F_MD_turnOf_0.2.2.2.2.2.2.2.2.2.2.2.2.2.2.2.2.2.2.2.2.2.2.2.2.2.2.2.2.2.2.1
theorem d_MD_turnOf_59 : decode prog_12_method_140_code 59 = .ok (.aload_n 0, 1) := F_MD_turnOf_0.2.2.2.2.2.2.2.2.2.2.2.2.2.2.2.2.2.2.2.2.2.2.2.2.2.2.2.2.2.2.2.1
theorem F_MD_turnOf_60 : Jvm.Free.DS.Facts prog_12_method_140_code 60 [(.aload_n 0, 1), (.getfield 50, 3), (.iload_n 1, 1), (.iload_n 2, 1), (.invokevirtual 341, 3), (.aload_n 0, 1), (.getfield 50, 3), (.iconst 0, 1), (.laload, 1), (.aload_n 0, 1), (.iload_n 3, 1), (.iconst 0, 1), (.invokevirtual 250, 3), (.lmul, 1), (.aload_n 0, 1), (.getfield 50, 3), (.iconst 1, 1), (.laload, 1), (.aload_n 0, 1), (.iload_n 3, 1), (.iconst 1, 1), (.invokevirtual 250, 3), (.lmul, 1), (.ladd, 1), (.aload_n 0, 1), (.getfield 50, 3), (.iconst 2, 1), (.laload, 1), (.aload_n 0, 1), (.iload_n 3, 1), (.iconst 2, 1), (.invokevirtual 250, 3)] := Jvm.Free.DS.facts 60 _ (by decide +kernel) (by decide +kernel)
theorem d_MD_turnOf_60 : decode prog_12_method_140_code 60 = .ok (.aload_n 0, 1) := F_MD_turnOf_60.1
theorem d_MD_turnOf_61 : decode prog_12_method_140_code 61 = .ok (.getfield 50, 3) := F_MD_turnOf_60.2.1
theorem d_MD_turnOf_64 : decode prog_12_method_140_code 64 = .ok (.iload_n 1, 1) := F_MD_turnOf_60.2.2.1
theorem d_MD_turnOf_65 : decode prog_12_method_140_code 65 = .ok (.iload_n 2, 1) := F_MD_turnOf_60.2.2.2.1
theorem d_MD_turnOf_66 : decode prog_12_method_140_code 66 = .ok (.invokevirtual 341, 3) := F_MD_turnOf_60.2.2.2.2.1
theorem d_MD_turnOf_69 : decode prog_12_method_140_code 69 = .ok (.aload_n 0, 1) := F_MD_turnOf_60.2.2.2.2.2.1
theorem d_MD_turnOf_70 : decode prog_12_method_140_code 70 = .ok (.getfield 50, 3) := F_MD_turnOf_60.2.2.2.2.2.2.1
theorem d_MD_turnOf_73 : decode prog_12_method_140_code 73 = .ok (.iconst 0, 1) := F_MD_turnOf_60.2.2.2.2.2.2.2.1
theorem d_MD_turnOf_74 : decode prog_12_method_140_code 74 = .ok (.laload, 1) := F_MD_turnOf_60.2.2.2.2.2.2.2.2.1
theorem d_MD_turnOf_75 : decode prog_12_method_140_code 75 = .ok (.aload_n 0, 1) := F_MD_turnOf_60.2.2.2.2.2.2.2.2.2.1
theorem d_MD_turnOf_76 : decode prog_12_method_140_code 76 = .ok (.iload_n 3, 1) := F_MD_turnOf_60.2.2.2.2.2.2.2.2.2.2.1
theorem d_MD_turnOf_77 : decode prog_12_method_140_code 77 = .ok (.iconst 0, 1) := F_MD_turnOf_60.2.2.2.2.2.2.2.2.2.2.2.1
theorem d_MD_turnOf_78 : decode prog_12_method_140_code 78 = .ok (.invokevirtual 250, 3) := F_MD_turnOf_60.2.2.2.2.2.2.2.2.2.2.2.2.1
theorem d_MD_turnOf_81 : decode prog_12_method_140_code 81 = .ok (.lmul, 1) := F_MD_turnOf_60.2.2.2.2.2.2.2.2.2.2.2.2.2.1
theorem d_MD_turnOf_82 : decode prog_12_method_140_code 82 = .ok (.aload_n 0, 1) := F_MD_turnOf_60.2.2.2.2.2.2.2.2.2.2.2.2.2.2.1
theorem d_MD_turnOf_83 : decode prog_12_method_140_code 83 = .ok (.getfield 50, 3) := F_MD_turnOf_60.2.2.2.2.2.2.2.2.2.2.2.2.2.2.2.1
theorem d_MD_turnOf_86 : decode prog_12_method_140_code 86 = .ok (.iconst 1, 1) := F_MD_turnOf_60.2.2.2.2.2.2.2.2.2.2.2.2.2.2.2.2.1
theorem d_MD_turnOf_87 : decode prog_12_method_140_code 87 = .ok (.laload, 1) := F_MD_turnOf_60.2.2.2.2.2.2.2.2.2.2.2.2.2.2.2.2.2.1
theorem d_MD_turnOf_88 : decode prog_12_method_140_code 88 = .ok (.aload_n 0, 1) := F_MD_turnOf_60.2.2.2.2.2.2.2.2.2.2.2.2.2.2.2.2.2.2.1
theorem d_MD_turnOf_89 : decode prog_12_method_140_code 89 = .ok (.iload_n 3, 1) := F_MD_turnOf_60.2.2.2.2.2.2.2.2.2.2.2.2.2.2.2.2.2.2.2.1
theorem d_MD_turnOf_90 : decode prog_12_method_140_code 90 = .ok (.iconst 1, 1) := F_MD_turnOf_60.2.2.2.2.2.2.2.2.2.2.2.2.2.2.2.2.2.2.2.2.1
theorem d_MD_turnOf_91 : decode prog_12_method_140_code 91 = .ok (.invokevirtual 250, 3) := F_MD_turnOf_60.2.2.2.2.2.2.2.2.2.2.2.2.2.2.2.2.2.2.2.2.2.1
theorem d_MD_turnOf_94 : decode prog_12_method_140_code 94 = .ok (.lmul, 1) := F_MD_turnOf_60.2.2.2.2.2.2.2.2.2.2.2.2.2.2.2.2.2.2.2.2.2.2.1
theorem d_MD_turnOf_95 : decode prog_12_method_140_code 95 = .ok (.ladd, 1) := F_MD_turnOf_60.2.2.2.2.2.2.2.2.2.2.2.2.2.2.2.2.2.2.2.2.2.2.2.1
theorem d_MD_turnOf_96 : decode prog_12_method_140_code 96 = .ok (.aload_n 0, 1) := F_MD_turnOf_60.2.2.2.2.2.2.2.2.2.2.2.2.2.2.2.2.2.2.2.2.2.2.2.2.1
theorem d_MD_turnOf_97 : decode prog_12_method_140_code 97 = .ok (.getfield 50, 3) := F_MD_turnOf_60.2.2.2.2.2.2.2.2.2.2.2.2.2.2.2.2.2.2.2.2.2.2.2.2.2.1
theorem d_MD_turnOf_100 : decode prog_12_method_140_code 100 = .ok (.iconst 2, 1) := F_MD_turnOf_60.2.2.2.2.2.2.2.2.2.2.2.2.2.2.2.2.2.2.2.2.2.2.2.2.2.2.1
theorem d_MD_turnOf_101 : decode prog_12_method_140_code 101 = .ok (.laload, 1) := F_MD_turnOf_60.2.2.2.2.2.2.2.2.2.2.2.2.2.2.2.2.2.2.2.2.2.2.2.2.2.2.2.1
theorem d_MD_turnOf_102 : decode prog_12_method_140_code 102 = .ok (.aload_n 0, 1) := F_MD_turnOf_60.2.2.2.2.2.2.2.2.2.2.2.2.2.2.2.2.2.2.2.2.2.2.2.2.2.2.2.2.1
theorem d_MD_turnOf_103 : decode prog_12_method_140_code 103 = .ok (.iload_n 3, 1) := F_MD_turnOf_60.2.2.2.2.2.2.2.2.2.2.2.2.2.2.2.2.2.2.2.2.2.2.2.2.2.2.2.2.2.1
theorem d_MD_turnOf_104 : decode prog_12_method_140_code 104 = .ok (.iconst 2, 1) := F_MD_turnOf_60.2.2.2.2.2.2.2.2.2.2.2.2.2.2.2.2.2.2.2.2.2.2.2.2.2.2.2.2.2.2.1
theorem d_MD_turnOf_105 : decode prog_12_method_140_code 105 = .ok (.invokevirtual 250, 3) := F_MD_turnOf_60.2.2.2.2.2.2.2.2.2.2.2.2.2.2.2.2.2.2.2.2.2.2.2.2.2.2.2.2.2.2.2.1
theorem F_MD_turnOf_108 : Jvm.Free.DS.Facts prog_12_method_140_code 108 [(.lmul, 1), (.ladd, 1), (.invokestatic 311, 3), (.ireturn, 1)] := Jvm.Free.DS.facts 108 _ (by decide +kernel) (by decide +kernel)
theorem d_MD_turnOf_108 : decode prog_12_method_140_code 108 = .ok (.lmul, 1) := F_MD_turnOf_108.1
theorem d_MD_turnOf_109 : decode prog_12_method_140_code 109 = .ok (.ladd, 1) := F_MD_turnOf_108.2.1
theorem d_MD_turnOf_110 : decode prog_12_method_140_code 110 = .ok (.invokestatic 311, 3) := F_MD_turnOf_108.2.2.1
theorem d_MD_turnOf_113 : decode prog_12_method_140_code 113 = .ok (.ireturn, 1) := F_MD_turnOf_108.2.2.2.1
theorem F_MD_isFinite_0 : Jvm.Free.DS.Facts prog_12_method_139_code 0 [(.aload_n 0, 1), (.iload_n 1, 1), (.iconst 2, 1), (.invokevirtual 250, 3), (.lconst 0, 1), (.lcmp, 1), (.ifCond .eq (7), 3), (.iconst 1, 1), (.goto (4), 3), (.iconst 0, 1), (.ireturn, 1)] := Jvm.Free.DS.facts 0 _ (by decide +kernel) (by decide +kernel)
theorem d_MD_isFinite_0 : decode prog_12_method_139_code 0 = .ok (.aload_n 0, 1) := F_MD_isFinite_0.1
theorem d_MD_isFinite_1 : decode prog_12_method_139_code 1 = .ok (.iload_n 1, 1) := F_MD_isFinite_0.2.1
theorem d_MD_isFinite_2 : decode prog_12_method_139_code 2 = .ok (.iconst 2, 1) := F_MD_isFinite_0.2.2.1
theorem d_MD_isFinite_3 : decode prog_12_method_139_code 3 = .ok (.invokevirtual 250, 3) := F_MD_isFinite_0.2.2.2.1
theorem d_MD_isFinite_6 : decode prog_12_method_139_code 6 = .ok (.lconst 0, 1) := F_MD_isFinite_0.2.2.2.2.1
theorem d_MD_isFinite_7 : decode prog_12_method_139_code 7 = .ok (.lcmp, 1) := F_MD_isFinite_0.2.2.2.2.2.1
theorem d_MD_isFinite_8 : decode prog_12_method_139_code 8 = .ok (.ifCond .eq (7), 3) := F_MD_isFinite_0.2.2.2.2.2.2.1
theorem d_MD_isFinite_11 : decode prog_12_method_139_code 11 = .ok (.iconst 1, 1) := F_MD_isFinite_0.2.2.2.2.2.2.2.1
theorem d_MD_isFinite_12 : decode prog_12_method_139_code 12 = .ok (.goto (4), 3) := F_MD_isFinite_0.2.2.2.2.2.2.2.2.1
theorem d_MD_isFinite_15 : decode prog_12_method_139_code 15 = .ok (.iconst 0, 1) := F_MD_isFinite_0.2.2.2.2.2.2.2.2.2.1
theorem d_MD_isFinite_16 : decode prog_12_method_139_code 16 = .ok (.ireturn, 1) := F_MD_isFinite_0.2.2.2.2.2.2.2.2.2.2.1
theorem F_MD_gap_0 : Jvm.Free.DS.Facts prog_12_method_141_code 0 [(.aload_n 0, 1), (.iconst 0, 1), (.putfield 74, 3), (.aload_n 0, 1), (.iload_n 1, 1), (.invokevirtual 247, 3), (.ifCond .eq (20), 3), (.aload_n 0, 1), (.iload_n 2, 1), (.invokevirtual 247, 3), (.ifCond .eq (12), 3), (.iload_n 3, 1), (.ifCond .lt (8), 3), (.iload_n 3, 1), (.iconst 1, 1), (.if_icmp .le (7), 3), (.ldc2_w 307, 3), (.lreturn, 1), (.aload_n 0, 1), (.iload_n 1, 1), (.invokevirtual 453, 3), (.ifCond .eq (11), 3), (.aload_n 0, 1), (.iload_n 2, 1), (.invokevirtual 453, 3), (.ifCond .ne (7), 3), (.ldc2_w 456, 3), (.lreturn, 1), (.aload_n 0, 1), (.iload_n 1, 1), (.iconst 0, 1), (.invokevirtual 250, 3)] := Jvm.Free.DS.facts 0 _ (by decide +kernel) (by decide +kernel)
theorem d_MD_gap_0 : decode prog_12_method_141_code 0 = .ok (.aload_n 0, 1) := F_MD_gap_0.1
theorem d_MD_gap_1 : decode prog_12_method_141_code 1 = .ok (.iconst 0, 1) := F_MD_gap_0.2.1
theorem d_MD_gap_2 : decode prog_12_method_141_code 2 = .ok (.putfield 74, 3) := F_MD_gap_0.2.2.1
theorem d_MD_gap_5 : decode prog_12_method_141_code 5 = .ok (.aload_n 0, 1) := F_MD_gap_0.2.2.2.1
theorem d_MD_gap_6 : decode prog_12_method_141_code 6 = .ok (.iload_n 1, 1) := F_MD_gap_0.2.2.2.2.1
theorem d_MD_gap_7 : decode prog_12_method_141_code 7 = .ok (.invokevirtual 247, 3) := F_MD_gap_0.2.2.2.2.2.1
theorem d_MD_gap_10 : decode prog_12_method_141_code 10 = .ok (.ifCond .eq (20), 3) := F_MD_gap_0.2.2.2.2.2.2.1
theorem d_MD_gap_13 : decode prog_12_method_141_code 13 = .ok (.aload_n 0, 1) := F_MD_gap_0.2.2.2.2.2.2.2.1
theorem d_MD_gap_14 : decode prog_12_method_141_code 14 = .ok (.iload_n 2, 1) := F_MD_gap_0.2.2.2.2.2.2.2.2.1
theorem d_MD_gap_15 : decode prog_12_method_141_code 15 = .ok (.invokevirtual 247, 3) := F_MD_gap_0.2.2.2.2.2.2.2.2.2.1
theorem d_MD_gap_18 : decode prog_12_method_141_code 18 = .ok (.ifCond .eq (12), 3) := F_MD_gap_0.2.2.2.2.2.2.2.2.2.2.1
theorem d_MD_gap_21 : decode prog_12_method_141_code 21 = .ok (.iload_n 3, 1) := F_MD_gap_0.2.2.2.2.2.2.2.2.2.2.2.1
theorem d_MD_gap_22 : decode prog_12_method_141_code 22 = .ok (.ifCond .lt (8), 3) := F_MD_gap_0.2.2.2.2.2.2.2.2.2.2.2.2.1
theorem d_MD_gap_25 : decode prog_12_method_141_code 25 = .ok (.iload_n 3, 1) := F_MD_gap_0.2.2.2.2.2.2.2.2.2.2.2.2.2.1
theorem d_MD_gap_26 : decode prog_12_method_141_code 26 = .ok (.iconst 1, 1) := F_MD_gap_0.2.2.2.2.2.2.2.2.2.2.2.2.2.2.1
theorem d_MD_gap_27 : decode prog_12_method_141_code 27 = .ok (.if_icmp .le (7), 3) := F_MD_gap_0.2.2.2.2.2.2.2.2.2.2.2.2.2.2.2.1
theorem d_MD_gap_30 : decode prog_12_method_141_code 30 = .ok (.ldc2_w 307, 3) := F_MD_gap_0.2.2.2.2.2.2.2.2.2.2.2.2.2.2.2.2.1
theorem d_MD_gap_33 : decode prog_12_method_141_code 33 = .ok (.lreturn, 1) := F_MD_gap_0.2.2.2.2.2.2.2.2.2.2.2.2.2.2.2.2.2.1
theorem d_MD_gap_34 : decode prog_12_method_141_code 34 = .ok (.aload_n 0, 1) := F_MD_gap_0.2.2.2.2.2.2.2.2.2.2.2.2.2.2.2.2.2.2.1
theorem d_MD_gap_35 : decode prog_12_method_141_code 35 = .ok (.iload_n 1, 1) := F_MD_gap_0.2.2.2.2.2.2.2.2.2.2.2.2.2.2.2.2.2.2.2.1
theorem d_MD_gap_36 : decode prog_12_method_141_code 36 = .ok (.invokevirtual 453, 3) := F_MD_gap_0.2.2.2.2.2.2.2.2.2.2.2.2.2.2.2.2.2.2.2.2.1
theorem d_MD_gap_39 : decode prog_12_method_141_code 39 = .ok (.ifCond .eq (11), 3) := F_MD_gap_0.2.2.2.2.2.2.2.2.2.2.2.2.2.2.2.2.2.2.2.2.2.1
theorem d_MD_gap_42 : decode prog_12_method_141_code 42 = .ok (.aload_n 0, 1) := F_MD_gap_0.2.2.2.2.2.2.2.2.2.2.2.2.2.2.2.2.2.2.2.2.2.2.1
theorem d_MD_gap_43 : decode prog_12_method_141_code 43 = .ok (.iload_n 2, 1) := F_MD_gap_0.2.2.2.2.2.2.2.2.2.2.2.2.2.2.2.2.2.2.2.2.2.2.2.1
theorem d_MD_gap_44 : decode prog_12_method_141_code 44 = .ok (.invokevirtual 453, 3) := F_MD_gap_0.2.2.2.2.2.2.2.2.2.2.2.2.2.2.2.2.2.2.2.2.2.2.2.2.1
theorem d_MD_gap_47 : decode prog_12_method_141_code 47 = .ok (.ifCond .ne (7), 3) := F_MD_gap_0.2.2.2.2.2.2.2.2.2.2.2.2.2.2.2.2.2.2.2.2.2.2.2.2.2.1
theorem d_MD_gap_50 : decode prog_12_method_141_code 50 = .ok (.ldc2_w 456, 3) := F_MD_gap_0.2.2.2.2.2.2.2.2.2.2.2.2.2.2.2.2.2.2.2.2.2.2.2.2.2.2.1
theorem d_MD_gap_53 : decode prog_12_method_141_code 53 = .ok (.lreturn, 1) := F_MD_gap_0.2.2.2.2.2.2.2.2.2.2.2.2.2.2.2.2.2.2.2.2.2.2.2.2.2.2.2.1
theorem d_MD_gap_54 : decode prog_12_method_141_code 54 = .ok (.aload_n 0, 1) := F_MD_gap_0.2.2.2.2.2.2.2.2.2.2.2.2.2.2.2.2.2.2.2.2.2.2.2.2.2.2.2.2.1
theorem d_MD_gap_55 : decode prog_12_method_141_code 55 = .ok (.iload_n 1, 1) := F_MD_gap_0.2.2.2.2.2.2.2.2.2.2.2.2.2.2.2.2.2.2.2.2.2.2.2.2.2.2.2.2.2.1
theorem d_MD_gap_56 : decode prog_12_method_141_code 56 = .ok (.iconst 0, 1) := F_MD_gap_0.2.2.2.2.2.2.2.2.2.2.2.2.2.2.2.2.2.2.2.2.2.2.2.2.2.2.2.2.2.2.1
theorem d_MD_gap_57 : decode prog_12_method_141_code 57 = .ok (.invokevirtual 250, 3) := F_MD_gap_0.2.2.2.2.2.2.2.2.2.2.2.2.2.2.2.2.2.2.2.2.2.2.2.2.2.2.2.2.2.2.2.1
theorem F_MD_gap_60 : Jvm.Free.DS.Facts prog_12_method_141_code 60 [(.aload_n 0, 1), (.iload_n 2, 1), (.iconst 2, 1), (.invokevirtual 250, 3), (.lmul, 1), (.aload_n 0, 1), (.iload_n 2, 1), (.iconst 0, 1), (.invokevirtual 250, 3), (.aload_n 0, 1), (.iload_n 1, 1), (.iconst 2, 1), (.invokevirtual 250, 3), (.lmul, 1), (.lsub, 1), (.lstore 4, 2), (.aload_n 0, 1), (.iload_n 1, 1), (.iconst 1, 1), (.invokevirtual 250, 3), (.aload_n 0, 1), (.iload_n 2, 1), (.iconst 2, 1), (.invokevirtual 250, 3), (.lmul, 1), (.aload_n 0, 1), (.iload_n 2, 1), (.iconst 1, 1), (.invokevirtual 250, 3), (.aload_n 0, 1), (.iload_n 1, 1), (.iconst 2, 1)] := Jvm.Free.DS.facts 60 _ (by decide +kernel) (by decide +kernel)
theorem d_MD_gap_60 : decode prog_12_method_141_code 60 = .ok (.aload_n 0, 1) := F_MD_gap_60.1
theorem d_MD_gap_61 : decode prog_12_method_141_code 61 = .ok (.iload_n 2, 1) := F_MD_gap_60.2.1
theorem d_MD_gap_62 : decode prog_12_method_141_code 62 = .ok (.iconst 2, 1) := F_MD_gap_60.2.2.1
theorem d_MD_gap_63 : decode prog_12_method_141_code 63 = .ok (.invokevirtual 250, 3) := F_MD_gap_60.2.2.2.1
theorem d_MD_gap_66 : decode prog_12_method_141_code 66 = .ok (.lmul, 1) := F_MD_gap_60.2.2.2.2.1
theorem d_MD_gap_67 : decode prog_12_method_141_code 67 = .ok (.aload_n 0, 1) := F_MD_gap_60.2.2.2.2.2.1
theorem d_MD_gap_68 : decode prog_12_method_141_code 68 = .ok (.iload_n 2, 1) := F_MD_gap_60.2.2.2.2.2.2.1
theorem d_MD_gap_69 : decode prog_12_method_141_code 69 = .ok (.iconst 0, 1) := F_MD_gap_60.2.2.2.2.2.2.2.1
theorem d_MD_gap_70 : decode prog_12_method_141_code 70 = .ok (.invokevirtual 250, 3) := F_MD_gap_60.2.2.2.2.2.2.2.2.1
theorem d_MD_gap_73 : decode prog_12_method_141_code 73 = .ok (.aload_n 0, 1) := F_MD_gap_60.2.2.2.2.2.2.2.2.2.1
theorem d_MD_gap_74 : decode prog_12_method_141_code 74 = .ok (.iload_n 1, 1) := F_MD_gap_60.2.2.2.2.2.2.2.2.2.2.1
theorem d_MD_gap_75 : decode prog_12_method_141_code 75 = .ok (.iconst 2, 1) := F_MD_gap_60.2.2.2.2.2.2.2.2.2.2.2.1
theorem d_MD_gap_76 : decode prog_12_method_141_code 76 = .ok (.invokevirtual 250, 3) := F_MD_gap_60.2.2.2.2.2.2.2.2.2.2.2.2.1
theorem d_MD_gap_79 : decode prog_12_method_141_code 79 = .ok (.lmul, 1) := F_MD_gap_60.2.2.2.2.2.2.2.2.2.2.2.2.2.1
theorem d_MD_gap_80 : decode prog_12_method_141_code 80 = .ok (.lsub, 1) := F_MD_gap_60.2.2.2.2.2.2.2.2.2.2.2.2.2.2.1
theorem d_MD_gap_81 : decode prog_12_method_141_code 81 = .ok (.lstore 4, 2) := F_MD_gap_60.2.2.2.2.2.2.2.2.2.2.2.2.2.2.2.1
theorem d_MD_gap_83 : decode prog_12_method_141_code 83 = .ok (.aload_n 0, 1) := F_MD_gap_60.2.2.2.2.2.2.2.2.2.2.2.2.2.2.2.2.1
theorem d_MD_gap_84 : decode prog_12_method_141_code 84 = .ok (.iload_n 1, 1) := F_MD_gap_60.2.2.2.2.2.2.2.2.2.2.2.2.2.2.2.2.2.1
theorem d_MD_gap_85 : decode prog_12_method_141_code 85 = .ok (.iconst 1, 1) := F_MD_gap_60.2.2.2.2.2.2.2.2.2.2.2.2.2.2.2.2.2.2.1
theorem d_MD_gap_86 : decode prog_12_method_141_code 86 = .ok (.invokevirtual 250, 3) := F_MD_gap_60.2.2.2.2.2.2.2.2.2.2.2.2.2.2.2.2.2.2.2.1
theorem d_MD_gap_89 : decode prog_12_method_141_code 89 = .ok (.aload_n 0, 1) := F_MD_gap_60.2.2.2.2.2.2.2.2.2.2.2.2.2.2.2.2.2.2.2.2.1
theorem d_MD_gap_90 : decode prog_12_method_141_code 90 = .ok (.iload_n 2, 1) := F_MD_gap_60.2.2.2.2.2.2.2.2.2.2.2.2.2.2.2.2.2.2.2.2.2.1
theorem d_MD_gap_91 : decode prog_12_method_141_code 91 = .ok (.iconst 2, 1) := F_MD_gap_60.2.2.2.2.2.2.2.2.2.2.2.2.2.2.2.2.2.2.2.2.2.2.1
theorem d_MD_gap_92 : decode prog_12_method_141_code 92 = .ok (.invokevirtual 250, 3) := F_MD_gap_60.2.2.2.2.2.2.2.2.2.2.2.2.2.2.2.2.2.2.2.2.2.2.2.1
theorem d_MD_gap_95 : decode prog_12_method_141_code 95 = .ok (.lmul, 1) := F_MD_gap_60.2.2.2.2.2.2.2.2.2.2.2.2.2.2.2.2.2.2.2.2.2.2.2.2.1
theorem d_MD_gap_96 : decode prog_12_method_141_code 96 = .ok (.aload_n 0, 1) := F_MD_gap_60.2.2.2.2.2.2.2.2.2.2.2.2.2.2.2.2.2.2.2.2.2.2.2.2.2.1
theorem d_MD_gap_97 : decode prog_12_method_141_code 97 = .ok (.iload_n 2, 1) := F_MD_gap_60.2.2.2.2.2.2.2.2.2.2.2.2.2.2.2.2.2.2.2.2.2.2.2.2.2.2.1
theorem d_MD_gap_98 : decode prog_12_method_141_code 98 = .ok (.iconst 1, 1) := F_MD_gap_60.2.2.2.2.2.2.2.2.2.2.2.2.2.2.2.2.2.2.2.2.2.2.2.2.2.2.2.1
theorem d_MD_gap_99 : decode prog_12_method_141_code 99 = .ok (.invokevirtual 250, 3) := F_MD_gap_60.2.2.2.2.2.2.2.2.2.2.2.2.2.2.2.2.2.2.2.2.2.2.2.2.2.2.2.2.1
theorem d_MD_gap_102 : decode prog_12_method_141_code 102 = .ok (.aload_n 0, 1) := F_MD_gap_60.2.2.2.2.2.2.2.2.2.2.2.2.2.2.2.2.2.2.2.2.2.2.2.2.2.2.2.2.2.1
theorem d_MD_gap_103 : decode prog_12_method_141_code 103 = .ok (.iload_n 1, 1) := F_MD_gap_60.2.2.2.2.2.2.2.2.2.2.2.2.2.2.2.2.2.2.2.2.2.2.2.2.2.2.2.2.2.2.1
theorem d_MD_gap_104 : decode prog_12_method_141_code 104 = .ok (.iconst 2, 1) := F_MD_gap_60.2.2.2.2.2.2.2.2.2.2.2.2.2.2.2.2.2.2.2.2.2.2.2.2.2.2.2.2.2.2.2.1
theorem F_MD_gap_105 : Jvm.Free.DS.Facts prog_12_method_141_code 105 [(.invokevirtual 250, 3), (.lmul, 1), (.lsub, 1), (.lstore 6, 2), (.aload_n 0, 1), (.iload_n 1, 1), (.iconst 2, 1), (.invokevirtual 250, 3), (.aload_n 0, 1), (.iload_n 2, 1), (.iconst 2, 1), (.invokevirtual 250, 3), (.lmul, 1), (.lstore 8, 2), (.lload 4, 2), (.lload 4, 2), (.lmul, 1), (.lload 6, 2), (.lload 6, 2), (.lmul, 1), (.ladd, 1), (.lload 8, 2), (.lload 8, 2), (.lmul, 1), (.iload_n 3, 1), (.invokestatic 458, 3), (.lreturn, 1)] := Jvm.Free.DS.facts 105 _ (by decide +kernel) (by decide +kernel)
theorem d_MD_gap_105 : decode prog_12_method_141_code 105 = .ok (.invokevirtual 250, 3) := F_MD_gap_105.1
theorem d_MD_gap_108 : decode prog_12_method_141_code 108 = .ok (.lmul, 1) := F_MD_gap_105.2.1
theorem d_MD_gap_109 : decode prog_12_method_141_code 109 = .ok (.lsub, 1) := F_MD_gap_105.2.2.1
theorem d_MD_gap_110 : decode prog_12_method_141_code 110 = .ok (.lstore 6, 2) := F_MD_gap_105.2.2.2.1
theorem d_MD_gap_112 : decode prog_12_method_141_code 112 = .ok (.aload_n 0, 1) := F_MD_gap_105.2.2.2.2.1
theorem d_MD_gap_113 : decode prog_12_method_141_code 113 = .ok (.iload_n 1, 1) := F_MD_gap_105.2.2.2.2.2.1
theorem d_MD_gap_114 : decode prog_12_method_141_code 114 = .ok (.iconst 2, 1) := F_MD_gap_105.2.2.2.2.2.2.1
theorem d_MD_gap_115 : decode prog_12_method_141_code 115 = .ok (.invokevirtual 250, 3) := F_MD_gap_105.2.2.2.2.2.2.2.1
theorem d_MD_gap_118 : decode prog_12_method_141_code 118 = .ok (.aload_n 0, 1) := F_MD_gap_105.2.2.2.2.2.2.2.2.1
theorem d_MD_gap_119 : decode prog_12_method_141_code 119 = .ok (.iload_n 2, 1) := F_MD_gap_105.2.2.2.2.2.2.2.2.2.1
theorem d_MD_gap_120 : decode prog_12_method_141_code 120 = .ok (.iconst 2, 1) := F_MD_gap_105.2.2.2.2.2.2.2.2.2.2.1
theorem d_MD_gap_121 : decode prog_12_method_141_code 121 = .ok (.invokevirtual 250, 3) := F_MD_gap_105.2.2.2.2.2.2.2.2.2.2.2.1
theorem d_MD_gap_124 : decode prog_12_method_141_code 124 = .ok (.lmul, 1) := F_MD_gap_105.2.2.2.2.2.2.2.2.2.2.2.2.1
theorem d_MD_gap_125 : decode prog_12_method_141_code 125 = .ok (.lstore 8, 2) := F_MD_gap_105.2.2.2.2.2.2.2.2.2.2.2.2.2.1
theorem d_MD_gap_127 : decode prog_12_method_141_code 127 = .ok (.lload 4, 2) := F_MD_gap_105.2.2.2.2.2.2.2.2.2.2.2.2.2.2.1
theorem d_MD_gap_129 : decode prog_12_method_141_code 129 = .ok (.lload 4, 2) := F_MD_gap_105.2.2.2.2.2.2.2.2.2.2.2.2.2.2.2.1
theorem d_MD_gap_131 : decode prog_12_method_141_code 131 = .ok (.lmul, 1) := F_MD_gap_105.2.2.2.2.2.2.2.2.2.2.2.2.2.2.2.2.1
theorem d_MD_gap_132 : decode prog_12_method_141_code 132 = .ok (.lload 6, 2) := F_MD_gap_105.2.2.2.2.2.2.2.2.2.2.2.2.2.2.2.2.2.1
theorem d_MD_gap_134 : decode prog_12_method_141_code 134 = .ok (.lload 6, 2) := F_MD_gap_105.2.2.2.2.2.2.2.2.2.2.2.2.2.2.2.2.2.2.1
theorem d_MD_gap_136 : decode prog_12_method_141_code 136 = .ok (.lmul, 1) := F_MD_gap_105.2.2.2.2.2.2.2.2.2.2.2.2.2.2.2.2.2.2.2.1
theorem d_MD_gap_137 : decode prog_12_method_141_code 137 = .ok (.ladd, 1) := F_MD_gap_105.2.2.2.2.2.2.2.2.2.2.2.2.2.2.2.2.2.2.2.2.1
theorem d_MD_gap_138 : decode prog_12_method_141_code 138 = .ok (.lload 8, 2) := F_MD_gap_105.2.2.2.2.2.2.2.2.2.2.2.2.2.2.2.2.2.2.2.2.2.1
theorem d_MD_gap_140 : decode prog_12_method_141_code 140 = .ok (.lload 8, 2) := F_MD_gap_105.2.2.2.2.2.2.2.2.2.2.2.2.2.2.2.2.2.2.2.2.2.2.1
theorem d_MD_gap_142 : decode prog_12_method_141_code 142 = .ok (.lmul, 1) := F_MD_gap_105.2.2.2.2.2.2.2.2.2.2.2.2.2.2.2.2.2.2.2.2.2.2.2.1
theorem d_MD_gap_143 : decode prog_12_method_141_code 143 = .ok (.iload_n 3, 1) := F_MD_gap_105.2.2.2.2.2.2.2.2.2.2.2.2.2.2.2.2.2.2.2.2.2.2.2.2.1
theorem d_MD_gap_144 : decode prog_12_method_141_code 144 = .ok (.invokestatic 458, 3) := F_MD_gap_105.2.2.2.2.2.2.2.2.2.2.2.2.2.2.2.2.2.2.2.2.2.2.2.2.2.1
theorem d_MD_gap_147 : decode prog_12_method_141_code 147 = .ok (.lreturn, 1) := F_MD_gap_105.2.2.2.2.2.2.2.2.2.2.2.2.2.2.2.2.2.2.2.2.2.2.2.2.2.2.1
theorem F_MD_least_0 : Jvm.Free.DS.Facts prog_12_method_142_code 0 [(.lload_n 0, 1), (.lload_n 2, 1), (.invokestatic 216, 3), (.lstore 5, 2), (.iload 4, 2), (.ifCond .ne (10), 3), (.lload_n 0, 1), (.lload 5, 2), (.ldiv, 1), (.goto (7), 3), (.lload_n 2, 1), (.lload 5, 2), (.ldiv, 1), (.lreturn, 1)] := Jvm.Free.DS.facts 0 _ (by decide +kernel) (by decide +kernel)
theorem d_MD_least_0 : decode prog_12_method_142_code 0 = .ok (.lload_n 0, 1) := F_MD_least_0.1
theorem d_MD_least_1 : decode prog_12_method_142_code 1 = .ok (.lload_n 2, 1) := F_MD_least_0.2.1
theorem d_MD_least_2 : decode prog_12_method_142_code 2 = .ok (.invokestatic 216, 3) := F_MD_least_0.2.2.1
theorem d_MD_least_5 : decode prog_12_method_142_code 5 = .ok (.lstore 5, 2) := F_MD_least_0.2.2.2.1
theorem d_MD_least_7 : decode prog_12_method_142_code 7 = .ok (.iload 4, 2) := F_MD_least_0.2.2.2.2.1
theorem d_MD_least_9 : decode prog_12_method_142_code 9 = .ok (.ifCond .ne (10), 3) := F_MD_least_0.2.2.2.2.2.1
theorem d_MD_least_12 : decode prog_12_method_142_code 12 = .ok (.lload_n 0, 1) := F_MD_least_0.2.2.2.2.2.2.1
theorem d_MD_least_13 : decode prog_12_method_142_code 13 = .ok (.lload 5, 2) := F_MD_least_0.2.2.2.2.2.2.2.1
theorem d_MD_least_15 : decode prog_12_method_142_code 15 = .ok (.ldiv, 1) := F_MD_least_0.2.2.2.2.2.2.2.2.1
theorem d_MD_least_16 : decode prog_12_method_142_code 16 = .ok (.goto (7), 3) := F_MD_least_0.2.2.2.2.2.2.2.2.2.1
theorem d_MD_least_19 : decode prog_12_method_142_code 19 = .ok (.lload_n 2, 1) := F_MD_least_0.2.2.2.2.2.2.2.2.2.2.1
theorem d_MD_least_20 : decode prog_12_method_142_code 20 = .ok (.lload 5, 2) := F_MD_least_0.2.2.2.2.2.2.2.2.2.2.2.1
theorem d_MD_least_22 : decode prog_12_method_142_code 22 = .ok (.ldiv, 1) := F_MD_least_0.2.2.2.2.2.2.2.2.2.2.2.2.1
theorem d_MD_least_23 : decode prog_12_method_142_code 23 = .ok (.lreturn, 1) := F_MD_least_0.2.2.2.2.2.2.2.2.2.2.2.2.2.1
theorem F_MD_middle_0 : Jvm.Free.DS.Facts prog_12_method_143_code 0 [(.aload_n 0, 1), (.iconst 0, 1), (.putfield 74, 3), (.aload_n 0, 1), (.iload_n 1, 1), (.invokevirtual 247, 3), (.ifCond .eq (18), 3), (.aload_n 0, 1), (.iload_n 2, 1), (.invokevirtual 247, 3), (.ifCond .eq (10), 3), (.iload_n 3, 1), (.invokestatic 244, 3), (.ifCond .ne (7), 3), (.ldc2_w 307, 3), (.lreturn, 1), (.aload_n 0, 1), (.iload_n 1, 1), (.invokevirtual 453, 3), (.ifCond .eq (11), 3), (.aload_n 0, 1), (.iload_n 2, 1), (.invokevirtual 453, 3), (.ifCond .ne (7), 3), (.ldc2_w 309, 3), (.lreturn, 1), (.aload_n 0, 1), (.iload_n 1, 1), (.iconst 2, 1), (.invokevirtual 250, 3), (.lstore 4, 2), (.aload_n 0, 1)] := Jvm.Free.DS.facts 0 _ (by decide +kernel) (by decide +kernel)
theorem d_MD_middle_0 : decode prog_12_method_143_code 0 = .ok (.aload_n 0, 1) := F_MD_middle_0.1
theorem d_MD_middle_1 : decode prog_12_method_143_code 1 = .ok (.iconst 0, 1) := F_MD_middle_0.2.1
theorem d_MD_middle_2 : decode prog_12_method_143_code 2 = .ok (.putfield 74, 3) := F_MD_middle_0.2.2.1
theorem d_MD_middle_5 : decode prog_12_method_143_code 5 = .ok (.aload_n 0, 1) := F_MD_middle_0.2.2.2.1
theorem d_MD_middle_6 : decode prog_12_method_143_code 6 = .ok (.iload_n 1, 1) := F_MD_middle_0.2.2.2.2.1
theorem d_MD_middle_7 : decode prog_12_method_143_code 7 = .ok (.invokevirtual 247, 3) := F_MD_middle_0.2.2.2.2.2.1
theorem d_MD_middle_10 : decode prog_12_method_143_code 10 = .ok (.ifCond .eq (18), 3) := F_MD_middle_0.2.2.2.2.2.2.1
theorem d_MD_middle_13 : decode prog_12_method_143_code 13 = .ok (.aload_n 0, 1) := F_MD_middle_0.2.2.2.2.2.2.2.1
theorem d_MD_middle_14 : decode prog_12_method_143_code 14 = .ok (.iload_n 2, 1) := F_MD_middle_0.2.2.2.2.2.2.2.2.1
theorem d_MD_middle_15 : decode prog_12_method_143_code 15 = .ok (.invokevirtual 247, 3) := F_MD_middle_0.2.2.2.2.2.2.2.2.2.1
theorem d_MD_middle_18 : decode prog_12_method_143_code 18 = .ok (.ifCond .eq (10), 3) := F_MD_middle_0.2.2.2.2.2.2.2.2.2.2.1
theorem d_MD_middle_21 : decode prog_12_method_143_code 21 = .ok (.iload_n 3, 1) := F_MD_middle_0.2.2.2.2.2.2.2.2.2.2.2.1
theorem d_MD_middle_22 : decode prog_12_method_143_code 22 = .ok (.invokestatic 244, 3) := F_MD_middle_0.2.2.2.2.2.2.2.2.2.2.2.2.1
theorem d_MD_middle_25 : decode prog_12_method_143_code 25 = .ok (.ifCond .ne (7), 3) := F_MD_middle_0.2.2.2.2.2.2.2.2.2.2.2.2.2.1
theorem d_MD_middle_28 : decode prog_12_method_143_code 28 = .ok (.ldc2_w 307, 3) := F_MD_middle_0.2.2.2.2.2.2.2.2.2.2.2.2.2.2.1
theorem d_MD_middle_31 : decode prog_12_method_143_code 31 = .ok (.lreturn, 1) := F_MD_middle_0.2.2.2.2.2.2.2.2.2.2.2.2.2.2.2.1
theorem d_MD_middle_32 : decode prog_12_method_143_code 32 = .ok (.aload_n 0, 1) := F_MD_middle_0.2.2.2.2.2.2.2.2.2.2.2.2.2.2.2.2.1
theorem d_MD_middle_33 : decode prog_12_method_143_code 33 = .ok (.iload_n 1, 1) := F_MD_middle_0.2.2.2.2.2.2.2.2.2.2.2.2.2.2.2.2.2.1
theorem d_MD_middle_34 : decode prog_12_method_143_code 34 = .ok (.invokevirtual 453, 3) := F_MD_middle_0.2.2.2.2.2.2.2.2.2.2.2.2.2.2.2.2.2.2.1
theorem d_MD_middle_37 : decode prog_12_method_143_code 37 = .ok (.ifCond .eq (11), 3) := F_MD_middle_0.2.2.2.2.2.2.2.2.2.2.2.2.2.2.2.2.2.2.2.1
theorem d_MD_middle_40 : decode prog_12_method_143_code 40 = .ok (.aload_n 0, 1) := F_MD_middle_0.2.2.2.2.2.2.2.2.2.2.2.2.2.2.2.2.2.2.2.2.1
theorem d_MD_middle_41 : decode prog_12_method_143_code 41 = .ok (.iload_n 2, 1) := F_MD_middle_0.2.2.2.2.2.2.2.2.2.2.2.2.2.2.2.2.2.2.2.2.2.1
theorem d_MD_middle_42 : decode prog_12_method_143_code 42 = .ok (.invokevirtual 453, 3) := F_MD_middle_0.2.2.2.2.2.2.2.2.2.2.2.2.2.2.2.2.2.2.2.2.2.2.1
theorem d_MD_middle_45 : decode prog_12_method_143_code 45 = .ok (.ifCond .ne (7), 3) := F_MD_middle_0.2.2.2.2.2.2.2.2.2.2.2.2.2.2.2.2.2.2.2.2.2.2.2.1
theorem d_MD_middle_48 : decode prog_12_method_143_code 48 = .ok (.ldc2_w 309, 3) := F_MD_middle_0.2.2.2.2.2.2.2.2.2.2.2.2.2.2.2.2.2.2.2.2.2.2.2.2.1
theorem d_MD_middle_51 : decode prog_12_method_143_code 51 = .ok (.lreturn, 1) := F_MD_middle_0.2.2.2.2.2.2.2.2.2.2.2.2.2.2.2.2.2.2.2.2.2.2.2.2.2.1
theorem d_MD_middle_52 : decode prog_12_method_143_code 52 = .ok (.aload_n 0, 1) := F_MD_middle_0.2.2.2.2.2.2.2.2.2.2.2.2.2.2.2.2.2.2.2.2.2.2.2.2.2.2.1
theorem d_MD_middle_53 : decode prog_12_method_143_code 53 = .ok (.iload_n 1, 1) := F_MD_middle_0.2.2.2.2.2.2.2.2.2.2.2.2.2.2.2.2.2.2.2.2.2.2.2.2.2.2.2.1
theorem d_MD_middle_54 : decode prog_12_method_143_code 54 = .ok (.iconst 2, 1) := F_MD_middle_0.2.2.2.2.2.2.2.2.2.2.2.2.2.2.2.2.2.2.2.2.2.2.2.2.2.2.2.2.1
theorem d_MD_middle_55 : decode prog_12_method_143_code 55 = .ok (.invokevirtual 250, 3) := F_MD_middle_0.2.2.2.2.2.2.2.2.2.2.2.2.2.2.2.2.2.2.2.2.2.2.2.2.2.2.2.2.2.1
theorem d_MD_middle_58 : decode prog_12_method_143_code 58 = .ok (.lstore 4, 2) := F_MD_middle_0.2.2.2.2.2.2.2.2.2.2.2.2.2.2.2.2.2.2.2.2.2.2.2.2.2.2.2.2.2.2.1
theorem d_MD_middle_60 : decode prog_12_method_143_code 60 = .ok (.aload_n 0, 1) := F_MD_middle_0.2.2.2.2.2.2.2.2.2.2.2.2.2.2.2.2.2.2.2.2.2.2.2.2.2.2.2.2.2.2.2.1
theorem F_MD_middle_61 : Jvm.Free.DS.Facts prog_12_method_143_code 61 [(.iload_n 2, 1), (.iconst 2, 1), (.invokevirtual 250, 3), (.lstore 6, 2), (.aload_n 0, 1), (.aload_n 0, 1), (.iload_n 1, 1), (.iconst 0, 1), (.invokevirtual 250, 3), (.lload 6, 2), (.lmul, 1), (.aload_n 0, 1), (.iload_n 2, 1), (.iconst 0, 1), (.invokevirtual 250, 3), (.lload 4, 2), (.lmul, 1), (.ladd, 1), (.aload_n 0, 1), (.iload_n 1, 1), (.iconst 1, 1), (.invokevirtual 250, 3), (.lload 6, 2), (.lmul, 1), (.aload_n 0, 1), (.iload_n 2, 1), (.iconst 1, 1), (.invokevirtual 250, 3), (.lload 4, 2), (.lmul, 1), (.ladd, 1), (.ldc2_w 462, 3)] := Jvm.Free.DS.facts 61 _ (by decide +kernel) (by decide +kernel)
theorem d_MD_middle_61 : decode prog_12_method_143_code 61 = .ok (.iload_n 2, 1) := F_MD_middle_61.1
theorem d_MD_middle_62 : decode prog_12_method_143_code 62 = .ok (.iconst 2, 1) := F_MD_middle_61.2.1
theorem d_MD_middle_63 : decode prog_12_method_143_code 63 = .ok (.invokevirtual 250, 3) := F_MD_middle_61.2.2.1
theorem d_MD_middle_66 : decode prog_12_method_143_code 66 = .ok (.lstore 6, 2) := F_MD_middle_61.2.2.2.1
theorem d_MD_middle_68 : decode prog_12_method_143_code 68 = .ok (.aload_n 0, 1) := F_MD_middle_61.2.2.2.2.1
theorem d_MD_middle_69 : decode prog_12_method_143_code 69 = .ok (.aload_n 0, 1) := F_MD_middle_61.2.2.2.2.2.1
theorem d_MD_middle_70 : decode prog_12_method_143_code 70 = .ok (.iload_n 1, 1) := F_MD_middle_61.2.2.2.2.2.2.1
theorem d_MD_middle_71 : decode prog_12_method_143_code 71 = .ok (.iconst 0, 1) := F_MD_middle_61.2.2.2.2.2.2.2.1
theorem d_MD_middle_72 : decode prog_12_method_143_code 72 = .ok (.invokevirtual 250, 3) := F_MD_middle_61.2.2.2.2.2.2.2.2.1
theorem d_MD_middle_75 : decode prog_12_method_143_code 75 = .ok (.lload 6, 2) := F_MD_middle_61.2.2.2.2.2.2.2.2.2.1
theorem d_MD_middle_77 : decode prog_12_method_143_code 77 = .ok (.lmul, 1) := F_MD_middle_61.2.2.2.2.2.2.2.2.2.2.1
theorem d_MD_middle_78 : decode prog_12_method_143_code 78 = .ok (.aload_n 0, 1) := F_MD_middle_61.2.2.2.2.2.2.2.2.2.2.2.1
theorem d_MD_middle_79 : decode prog_12_method_143_code 79 = .ok (.iload_n 2, 1) := F_MD_middle_61.2.2.2.2.2.2.2.2.2.2.2.2.1
theorem d_MD_middle_80 : decode prog_12_method_143_code 80 = .ok (.iconst 0, 1) := F_MD_middle_61.2.2.2.2.2.2.2.2.2.2.2.2.2.1
theorem d_MD_middle_81 : decode prog_12_method_143_code 81 = .ok (.invokevirtual 250, 3) := F_MD_middle_61.2.2.2.2.2.2.2.2.2.2.2.2.2.2.1
theorem d_MD_middle_84 : decode prog_12_method_143_code 84 = .ok (.lload 4, 2) := F_MD_middle_61.2.2.2.2.2.2.2.2.2.2.2.2.2.2.2.1
theorem d_MD_middle_86 : decode prog_12_method_143_code 86 = .ok (.lmul, 1) := F_MD_middle_61.2.2.2.2.2.2.2.2.2.2.2.2.2.2.2.2.1
theorem d_MD_middle_87 : decode prog_12_method_143_code 87 = .ok (.ladd, 1) := F_MD_middle_61.2.2.2.2.2.2.2.2.2.2.2.2.2.2.2.2.2.1
theorem d_MD_middle_88 : decode prog_12_method_143_code 88 = .ok (.aload_n 0, 1) := F_MD_middle_61.2.2.2.2.2.2.2.2.2.2.2.2.2.2.2.2.2.2.1
theorem d_MD_middle_89 : decode prog_12_method_143_code 89 = .ok (.iload_n 1, 1) := F_MD_middle_61.2.2.2.2.2.2.2.2.2.2.2.2.2.2.2.2.2.2.2.1
theorem d_MD_middle_90 : decode prog_12_method_143_code 90 = .ok (.iconst 1, 1) := F_MD_middle_61.2.2.2.2.2.2.2.2.2.2.2.2.2.2.2.2.2.2.2.2.1
theorem d_MD_middle_91 : decode prog_12_method_143_code 91 = .ok (.invokevirtual 250, 3) := F_MD_middle_61.2.2.2.2.2.2.2.2.2.2.2.2.2.2.2.2.2.2.2.2.2.1
theorem d_MD_middle_94 : decode prog_12_method_143_code 94 = .ok (.lload 6, 2) := F_MD_middle_61.2.2.2.2.2.2.2.2.2.2.2.2.2.2.2.2.2.2.2.2.2.2.1
theorem d_MD_middle_96 : decode prog_12_method_143_code 96 = .ok (.lmul, 1) := F_MD_middle_61.2.2.2.2.2.2.2.2.2.2.2.2.2.2.2.2.2.2.2.2.2.2.2.1
theorem d_MD_middle_97 : decode prog_12_method_143_code 97 = .ok (.aload_n 0, 1) := F_MD_middle_61.2.2.2.2.2.2.2.2.2.2.2.2.2.2.2.2.2.2.2.2.2.2.2.2.1
theorem d_MD_middle_98 : decode prog_12_method_143_code 98 = .ok (.iload_n 2, 1) := F_MD_middle_61.2.2.2.2.2.2.2.2.2.2.2.2.2.2.2.2.2.2.2.2.2.2.2.2.2.1
theorem d_MD_middle_99 : decode prog_12_method_143_code 99 = .ok (.iconst 1, 1) := F_MD_middle_61.2.2.2.2.2.2.2.2.2.2.2.2.2.2.2.2.2.2.2.2.2.2.2.2.2.2.1
theorem d_MD_middle_100 : decode prog_12_method_143_code 100 = .ok (.invokevirtual 250, 3) := F_MD_middle_61.2.2.2.2.2.2.2.2.2.2.2.2.2.2.2.2.2.2.2.2.2.2.2.2.2.2.2.1
theorem d_MD_middle_103 : decode prog_12_method_143_code 103 = .ok (.lload 4, 2) := F_MD_middle_61.2.2.2.2.2.2.2.2.2.2.2.2.2.2.2.2.2.2.2.2.2.2.2.2.2.2.2.2.1
theorem d_MD_middle_105 : decode prog_12_method_143_code 105 = .ok (.lmul, 1) := F_MD_middle_61.2.2.2.2.2.2.2.2.2.2.2.2.2.2.2.2.2.2.2.2.2.2.2.2.2.2.2.2.2.1
theorem d_MD_middle_106 : decode prog_12_method_143_code 106 = .ok (.ladd, 1) := F_MD_middle_61.2.2.2.2.2.2.2.2.2.2.2.2.2.2.2.2.2.2.2.2.2.2.2.2.2.2.2.2.2.2.1
theorem d_MD_middle_107 : decode prog_12_method_143_code 107 = .ok (.ldc2_w 462, 3) := F_MD_middle_61.2.2.2.2.2.2.2.2.2.2.2.2.2.2.2.2.2.2.2.2.2.2.2.2.2.2.2.2.2.2.2.1
theorem F_MD_middle_110 : Jvm.Free.DS.Facts prog_12_method_143_code 110 [(.lload 4, 2), (.lmul, 1), (.lload 6, 2), (.lmul, 1), (.invokevirtual 179, 3), (.aload_n 0, 1), (.getfield 50, 3), (.iload_n 3, 1), (.laload, 1), (.lreturn, 1)] := Jvm.Free.DS.facts 110 _ (by decide +kernel) (by decide +kernel)
theorem d_MD_middle_110 : decode prog_12_method_143_code 110 = .ok (.lload 4, 2) := F_MD_middle_110.1
theorem d_MD_middle_112 : decode prog_12_method_143_code 112 = .ok (.lmul, 1) := F_MD_middle_110.2.1
theorem d_MD_middle_113 : decode prog_12_method_143_code 113 = .ok (.lload 6, 2) := F_MD_middle_110.2.2.1
theorem d_MD_middle_115 : decode prog_12_method_143_code 115 = .ok (.lmul, 1) := F_MD_middle_110.2.2.2.1
theorem d_MD_middle_116 : decode prog_12_method_143_code 116 = .ok (.invokevirtual 179, 3) := F_MD_middle_110.2.2.2.2.1
theorem d_MD_middle_119 : decode prog_12_method_143_code 119 = .ok (.aload_n 0, 1) := F_MD_middle_110.2.2.2.2.2.1
theorem d_MD_middle_120 : decode prog_12_method_143_code 120 = .ok (.getfield 50, 3) := F_MD_middle_110.2.2.2.2.2.2.1
theorem d_MD_middle_123 : decode prog_12_method_143_code 123 = .ok (.iload_n 3, 1) := F_MD_middle_110.2.2.2.2.2.2.2.1
theorem d_MD_middle_124 : decode prog_12_method_143_code 124 = .ok (.laload, 1) := F_MD_middle_110.2.2.2.2.2.2.2.2.1
theorem d_MD_middle_125 : decode prog_12_method_143_code 125 = .ok (.lreturn, 1) := F_MD_middle_110.2.2.2.2.2.2.2.2.2.1
theorem F_MD_scale_0 : Jvm.Free.DS.Facts prog_12_method_144_code 0 [(.aload_n 0, 1), (.iconst 0, 1), (.putfield 74, 3), (.aload_n 0, 1), (.iload_n 1, 1), (.invokevirtual 241, 3), (.ifCond .eq (12), 3), (.iload_n 2, 1), (.ifCond .lt (8), 3), (.iload_n 2, 1), (.iconst 1, 1), (.if_icmp .le (7), 3), (.ldc2_w 307, 3), (.lreturn, 1), (.aload_n 0, 1), (.aload_n 0, 1), (.getfield 41, 3), (.iload_n 1, 1), (.invokevirtual 274, 3), (.aload_n 0, 1), (.invokevirtual 323, 3), (.iconst 3, 1), (.if_icmp .le (7), 3), (.ldc2_w 456, 3), (.lreturn, 1), (.aload_n 0, 1), (.getfield 41, 3), (.iconst 0, 1), (.laload, 1), (.aload_n 0, 1), (.getfield 41, 3), (.iconst 0, 1)] := Jvm.Free.DS.facts 0 _ (by decide +kernel) (by decide +kernel)
theorem d_MD_scale_0 : decode prog_12_method_144_code 0 = .ok (.aload_n 0, 1) := F_MD_scale_0.1
theorem d_MD_scale_1 : decode prog_12_method_144_code 1 = .ok (.iconst 0, 1) := F_MD_scale_0.2.1
theorem d_MD_scale_2 : decode prog_12_method_144_code 2 = .ok (.putfield 74, 3) := F_MD_scale_0.2.2.1
theorem d_MD_scale_5 : decode prog_12_method_144_code 5 = .ok (.aload_n 0, 1) := F_MD_scale_0.2.2.2.1
theorem d_MD_scale_6 : decode prog_12_method_144_code 6 = .ok (.iload_n 1, 1) := F_MD_scale_0.2.2.2.2.1
theorem d_MD_scale_7 : decode prog_12_method_144_code 7 = .ok (.invokevirtual 241, 3) := F_MD_scale_0.2.2.2.2.2.1
theorem d_MD_scale_10 : decode prog_12_method_144_code 10 = .ok (.ifCond .eq (12), 3) := F_MD_scale_0.2.2.2.2.2.2.1
theorem d_MD_scale_13 : decode prog_12_method_144_code 13 = .ok (.iload_n 2, 1) := F_MD_scale_0.2.2.2.2.2.2.2.1
theorem d_MD_scale_14 : decode prog_12_method_144_code 14 = .ok (.ifCond .lt (8), 3) := F_MD_scale_0.2.2.2.2.2.2.2.2.1
theorem d_MD_scale_17 : decode prog_12_method_144_code 17 = .ok (.iload_n 2, 1) := F_MD_scale_0.2.2.2.2.2.2.2.2.2.1
theorem d_MD_scale_18 : decode prog_12_method_144_code 18 = .ok (.iconst 1, 1) := F_MD_scale_0.2.2.2.2.2.2.2.2.2.2.1
theorem d_MD_scale_19 : decode prog_12_method_144_code 19 = .ok (.if_icmp .le (7), 3) := F_MD_scale_0.2.2.2.2.2.2.2.2.2.2.2.1
theorem d_MD_scale_22 : decode prog_12_method_144_code 22 = .ok (.ldc2_w 307, 3) := F_MD_scale_0.2.2.2.2.2.2.2.2.2.2.2.2.1
theorem d_MD_scale_25 : decode prog_12_method_144_code 25 = .ok (.lreturn, 1) := F_MD_scale_0.2.2.2.2.2.2.2.2.2.2.2.2.2.1
theorem d_MD_scale_26 : decode prog_12_method_144_code 26 = .ok (.aload_n 0, 1) := F_MD_scale_0.2.2.2.2.2.2.2.2.2.2.2.2.2.2.1
theorem d_MD_scale_27 : decode prog_12_method_144_code 27 = .ok (.aload_n 0, 1) := F_MD_scale_0.2.2.2.2.2.2.2.2.2.2.2.2.2.2.2.1
theorem d_MD_scale_28 : decode prog_12_method_144_code 28 = .ok (.getfield 41, 3) := F_MD_scale_0.2.2.2.2.2.2.2.2.2.2.2.2.2.2.2.2.1
theorem d_MD_scale_31 : decode prog_12_method_144_code 31 = .ok (.iload_n 1, 1) := F_MD_scale_0.2.2.2.2.2.2.2.2.2.2.2.2.2.2.2.2.2.1
theorem d_MD_scale_32 : decode prog_12_method_144_code 32 = .ok (.invokevirtual 274, 3) := F_MD_scale_0.2.2.2.2.2.2.2.2.2.2.2.2.2.2.2.2.2.2.1
theorem d_MD_scale_35 : decode prog_12_method_144_code 35 = .ok (.aload_n 0, 1) := F_MD_scale_0.2.2.2.2.2.2.2.2.2.2.2.2.2.2.2.2.2.2.2.1
theorem d_MD_scale_36 : decode prog_12_method_144_code 36 = .ok (.invokevirtual 323, 3) := F_MD_scale_0.2.2.2.2.2.2.2.2.2.2.2.2.2.2.2.2.2.2.2.2.1
theorem d_MD_scale_39 : decode prog_12_method_144_code 39 = .ok (.iconst 3, 1) := F_MD_scale_0.2.2.2.2.2.2.2.2.2.2.2.2.2.2.2.2.2.2.2.2.2.1
theorem d_MD_scale_40 : decode prog_12_method_144_code 40 = .ok (.if_icmp .le (7), 3) := F_MD_scale_0.2.2.2.2.2.2.2.2.2.2.2.2.2.2.2.2.2.2.2.2.2.2.1
theorem d_MD_scale_43 : decode prog_12_method_144_code 43 = .ok (.ldc2_w 456, 3) := F_MD_scale_0.2.2.2.2.2.2.2.2.2.2.2.2.2.2.2.2.2.2.2.2.2.2.2.1
theorem d_MD_scale_46 : decode prog_12_method_144_code 46 = .ok (.lreturn, 1) := F_MD_scale_0.2.2.2.2.2.2.2.2.2.2.2.2.2.2.2.2.2.2.2.2.2.2.2.2.1
theorem d_MD_scale_47 : decode prog_12_method_144_code 47 = .ok (.aload_n 0, 1) := F_MD_scale_0.2.2.2.2.2.2.2.2.2.2.2.2.2.2.2.2.2.2.2.2.2.2.2.2.2.1
theorem d_MD_scale_48 : decode prog_12_method_144_code 48 = .ok (.getfield 41, 3) := F_MD_scale_0.2.2.2.2.2.2.2.2.2.2.2.2.2.2.2.2.2.2.2.2.2.2.2.2.2.2.1
theorem d_MD_scale_51 : decode prog_12_method_144_code 51 = .ok (.iconst 0, 1) := F_MD_scale_0.2.2.2.2.2.2.2.2.2.2.2.2.2.2.2.2.2.2.2.2.2.2.2.2.2.2.2.1
theorem d_MD_scale_52 : decode prog_12_method_144_code 52 = .ok (.laload, 1) := F_MD_scale_0.2.2.2.2.2.2.2.2.2.2.2.2.2.2.2.2.2.2.2.2.2.2.2.2.2.2.2.2.1
theorem d_MD_scale_53 : decode prog_12_method_144_code 53 = .ok (.aload_n 0, 1) := F_MD_scale_0.2.2.2.2.2.2.2.2.2.2.2.2.2.2.2.2.2.2.2.2.2.2.2.2.2.2.2.2.2.1
theorem d_MD_scale_54 : decode prog_12_method_144_code 54 = .ok (.getfield 41, 3) := F_MD_scale_0.2.2.2.2.2.2.2.2.2.2.2.2.2.2.2.2.2.2.2.2.2.2.2.2.2.2.2.2.2.2.1
theorem d_MD_scale_57 : decode prog_12_method_144_code 57 = .ok (.iconst 0, 1) := F_MD_scale_0.2.2.2.2.2.2.2.2.2.2.2.2.2.2.2.2.2.2.2.2.2.2.2.2.2.2.2.2.2.2.2.1
theorem F_MD_scale_58 : Jvm.Free.DS.Facts prog_12_method_144_code 58 [(.laload, 1), (.lmul, 1), (.aload_n 0, 1), (.getfield 41, 3), (.iconst 3, 1), (.laload, 1), (.aload_n 0, 1), (.getfield 41, 3), (.iconst 3, 1), (.laload, 1), (.lmul, 1), (.ladd, 1), (.aload_n 0, 1), (.getfield 41, 3), (.bipush (8), 2), (.laload, 1), (.aload_n 0, 1), (.getfield 41, 3), (.bipush (8), 2), (.laload, 1), (.lmul, 1), (.iload_n 2, 1), (.invokestatic 458, 3), (.lreturn, 1)] := Jvm.Free.DS.facts 58 _ (by decide +kernel) (by decide +kernel)
theorem d_MD_scale_58 : decode prog_12_method_144_code 58 = .ok (.laload, 1) := F_MD_scale_58.1
theorem d_MD_scale_59 : decode prog_12_method_144_code 59 = .ok (.lmul, 1) := F_MD_scale_58.2.1
theorem d_MD_scale_60 : decode prog_12_method_144_code 60 = .ok (.aload_n 0, 1) := F_MD_scale_58.2.2.1
theorem d_MD_scale_61 : decode prog_12_method_144_code 61 = .ok (.getfield 41, 3) := F_MD_scale_58.2.2.2.1
theorem d_MD_scale_64 : decode prog_12_method_144_code 64 = .ok (.iconst 3, 1) := F_MD_scale_58.2.2.2.2.1
theorem d_MD_scale_65 : decode prog_12_method_144_code 65 = .ok (.laload, 1) := F_MD_scale_58.2.2.2.2.2.1
theorem d_MD_scale_66 : decode prog_12_method_144_code 66 = .ok (.aload_n 0, 1) := F_MD_scale_58.2.2.2.2.2.2.1
theorem d_MD_scale_67 : decode prog_12_method_144_code 67 = .ok (.getfield 41, 3) := F_MD_scale_58.2.2.2.2.2.2.2.1
theorem d_MD_scale_70 : decode prog_12_method_144_code 70 = .ok (.iconst 3, 1) := F_MD_scale_58.2.2.2.2.2.2.2.2.1
theorem d_MD_scale_71 : decode prog_12_method_144_code 71 = .ok (.laload, 1) := F_MD_scale_58.2.2.2.2.2.2.2.2.2.1
theorem d_MD_scale_72 : decode prog_12_method_144_code 72 = .ok (.lmul, 1) := F_MD_scale_58.2.2.2.2.2.2.2.2.2.2.1
theorem d_MD_scale_73 : decode prog_12_method_144_code 73 = .ok (.ladd, 1) := F_MD_scale_58.2.2.2.2.2.2.2.2.2.2.2.1
theorem d_MD_scale_74 : decode prog_12_method_144_code 74 = .ok (.aload_n 0, 1) := F_MD_scale_58.2.2.2.2.2.2.2.2.2.2.2.2.1
theorem d_MD_scale_75 : decode prog_12_method_144_code 75 = .ok (.getfield 41, 3) := F_MD_scale_58.2.2.2.2.2.2.2.2.2.2.2.2.2.1
theorem d_MD_scale_78 : decode prog_12_method_144_code 78 = .ok (.bipush (8), 2) := F_MD_scale_58.2.2.2.2.2.2.2.2.2.2.2.2.2.2.1
theorem d_MD_scale_80 : decode prog_12_method_144_code 80 = .ok (.laload, 1) := F_MD_scale_58.2.2.2.2.2.2.2.2.2.2.2.2.2.2.2.1
theorem d_MD_scale_81 : decode prog_12_method_144_code 81 = .ok (.aload_n 0, 1) := F_MD_scale_58.2.2.2.2.2.2.2.2.2.2.2.2.2.2.2.2.1
theorem d_MD_scale_82 : decode prog_12_method_144_code 82 = .ok (.getfield 41, 3) := F_MD_scale_58.2.2.2.2.2.2.2.2.2.2.2.2.2.2.2.2.2.1
theorem d_MD_scale_85 : decode prog_12_method_144_code 85 = .ok (.bipush (8), 2) := F_MD_scale_58.2.2.2.2.2.2.2.2.2.2.2.2.2.2.2.2.2.2.1
theorem d_MD_scale_87 : decode prog_12_method_144_code 87 = .ok (.laload, 1) := F_MD_scale_58.2.2.2.2.2.2.2.2.2.2.2.2.2.2.2.2.2.2.2.1
theorem d_MD_scale_88 : decode prog_12_method_144_code 88 = .ok (.lmul, 1) := F_MD_scale_58.2.2.2.2.2.2.2.2.2.2.2.2.2.2.2.2.2.2.2.2.1
theorem d_MD_scale_89 : decode prog_12_method_144_code 89 = .ok (.iload_n 2, 1) := F_MD_scale_58.2.2.2.2.2.2.2.2.2.2.2.2.2.2.2.2.2.2.2.2.2.1
theorem d_MD_scale_90 : decode prog_12_method_144_code 90 = .ok (.invokestatic 458, 3) := F_MD_scale_58.2.2.2.2.2.2.2.2.2.2.2.2.2.2.2.2.2.2.2.2.2.2.1
theorem d_MD_scale_93 : decode prog_12_method_144_code 93 = .ok (.lreturn, 1) := F_MD_scale_58.2.2.2.2.2.2.2.2.2.2.2.2.2.2.2.2.2.2.2.2.2.2.2.1
theorem F_MD_partner_0 : Jvm.Free.DS.Facts prog_12_method_145_code 0 [(.aload_n 0, 1), (.iconst 0, 1), (.putfield 74, 3), (.aload_n 0, 1), (.iload_n 1, 1), (.invokevirtual 241, 3), (.ifCond .ne (5), 3), (.iconst (-1), 1), (.ireturn, 1), (.aload_n 0, 1), (.iload_n 1, 1), (.invokevirtual 280, 3), (.iconst 0, 1), (.istore_n 2, 1), (.iload_n 2, 1), (.i2l, 1), (.aload_n 0, 1), (.getfield 21, 3), (.sipush (168), 3), (.laload, 1), (.lcmp, 1), (.ifCond .ge (19), 3), (.aload_n 0, 1), (.iload_n 2, 1), (.invokevirtual 331, 3), (.ifCond .eq (5), 3), (.iload_n 2, 1), (.ireturn, 1), (.iinc 2 (1), 3), (.goto (-27), 3), (.bipush (-2), 2), (.ireturn, 1)] := Jvm.Free.DS.facts 0 _ (by decide +kernel) (by decide +kernel)
theorem d_MD_partner_0 : decode prog_12_method_145_code 0 = .ok (.aload_n 0, 1) := F_MD_partner_0.1
theorem d_MD_partner_1 : decode prog_12_method_145_code 1 = .ok (.iconst 0, 1) := F_MD_partner_0.2.1
theorem d_MD_partner_2 : decode prog_12_method_145_code 2 = .ok (.putfield 74, 3) := F_MD_partner_0.2.2.1
theorem d_MD_partner_5 : decode prog_12_method_145_code 5 = .ok (.aload_n 0, 1) := F_MD_partner_0.2.2.2.1
theorem d_MD_partner_6 : decode prog_12_method_145_code 6 = .ok (.iload_n 1, 1) := F_MD_partner_0.2.2.2.2.1
theorem d_MD_partner_7 : decode prog_12_method_145_code 7 = .ok (.invokevirtual 241, 3) := F_MD_partner_0.2.2.2.2.2.1
theorem d_MD_partner_10 : decode prog_12_method_145_code 10 = .ok (.ifCond .ne (5), 3) := F_MD_partner_0.2.2.2.2.2.2.1
theorem d_MD_partner_13 : decode prog_12_method_145_code 13 = .ok (.iconst (-1), 1) := F_MD_partner_0.2.2.2.2.2.2.2.1
theorem d_MD_partner_14 : decode prog_12_method_145_code 14 = .ok (.ireturn, 1) := F_MD_partner_0.2.2.2.2.2.2.2.2.1
theorem d_MD_partner_15 : decode prog_12_method_145_code 15 = .ok (.aload_n 0, 1) := F_MD_partner_0.2.2.2.2.2.2.2.2.2.1
theorem d_MD_partner_16 : decode prog_12_method_145_code 16 = .ok (.iload_n 1, 1) := F_MD_partner_0.2.2.2.2.2.2.2.2.2.2.1
theorem d_MD_partner_17 : decode prog_12_method_145_code 17 = .ok (.invokevirtual 280, 3) := F_MD_partner_0.2.2.2.2.2.2.2.2.2.2.2.1
theorem d_MD_partner_20 : decode prog_12_method_145_code 20 = .ok (.iconst 0, 1) := F_MD_partner_0.2.2.2.2.2.2.2.2.2.2.2.2.1
theorem d_MD_partner_21 : decode prog_12_method_145_code 21 = .ok (.istore_n 2, 1) := F_MD_partner_0.2.2.2.2.2.2.2.2.2.2.2.2.2.1
theorem d_MD_partner_22 : decode prog_12_method_145_code 22 = .ok (.iload_n 2, 1) := F_MD_partner_0.2.2.2.2.2.2.2.2.2.2.2.2.2.2.1
theorem d_MD_partner_23 : decode prog_12_method_145_code 23 = .ok (.i2l, 1) := F_MD_partner_0.2.2.2.2.2.2.2.2.2.2.2.2.2.2.2.1
theorem d_MD_partner_24 : decode prog_12_method_145_code 24 = .ok (.aload_n 0, 1) := F_MD_partner_0.2.2.2.2.2.2.2.2.2.2.2.2.2.2.2.2.1
theorem d_MD_partner_25 : decode prog_12_method_145_code 25 = .ok (.getfield 21, 3) := F_MD_partner_0.2.2.2.2.2.2.2.2.2.2.2.2.2.2.2.2.2.1
theorem d_MD_partner_28 : decode prog_12_method_145_code 28 = .ok (.sipush (168), 3) := F_MD_partner_0.2.2.2.2.2.2.2.2.2.2.2.2.2.2.2.2.2.2.1
theorem d_MD_partner_31 : decode prog_12_method_145_code 31 = .ok (.laload, 1) := F_MD_partner_0.2.2.2.2.2.2.2.2.2.2.2.2.2.2.2.2.2.2.2.1
theorem d_MD_partner_32 : decode prog_12_method_145_code 32 = .ok (.lcmp, 1) := F_MD_partner_0.2.2.2.2.2.2.2.2.2.2.2.2.2.2.2.2.2.2.2.2.1
theorem d_MD_partner_33 : decode prog_12_method_145_code 33 = .ok (.ifCond .ge (19), 3) := F_MD_partner_0.2.2.2.2.2.2.2.2.2.2.2.2.2.2.2.2.2.2.2.2.2.1
theorem d_MD_partner_36 : decode prog_12_method_145_code 36 = .ok (.aload_n 0, 1) := F_MD_partner_0.2.2.2.2.2.2.2.2.2.2.2.2.2.2.2.2.2.2.2.2.2.2.1
theorem d_MD_partner_37 : decode prog_12_method_145_code 37 = .ok (.iload_n 2, 1) := F_MD_partner_0.2.2.2.2.2.2.2.2.2.2.2.2.2.2.2.2.2.2.2.2.2.2.2.1
theorem d_MD_partner_38 : decode prog_12_method_145_code 38 = .ok (.invokevirtual 331, 3) := F_MD_partner_0.2.2.2.2.2.2.2.2.2.2.2.2.2.2.2.2.2.2.2.2.2.2.2.2.1
theorem d_MD_partner_41 : decode prog_12_method_145_code 41 = .ok (.ifCond .eq (5), 3) := F_MD_partner_0.2.2.2.2.2.2.2.2.2.2.2.2.2.2.2.2.2.2.2.2.2.2.2.2.2.1
theorem d_MD_partner_44 : decode prog_12_method_145_code 44 = .ok (.iload_n 2, 1) := F_MD_partner_0.2.2.2.2.2.2.2.2.2.2.2.2.2.2.2.2.2.2.2.2.2.2.2.2.2.2.1
theorem d_MD_partner_45 : decode prog_12_method_145_code 45 = .ok (.ireturn, 1) := F_MD_partner_0.2.2.2.2.2.2.2.2.2.2.2.2.2.2.2.2.2.2.2.2.2.2.2.2.2.2.2.1
theorem d_MD_partner_46 : decode prog_12_method_145_code 46 = .ok (.iinc 2 (1), 3) := F_MD_partner_0.2.2.2.2.2.2.2.2.2.2.2.2.2.2.2.2.2.2.2.2.2.2.2.2.2.2.2.2.1
theorem d_MD_partner_49 : decode prog_12_method_145_code 49 = .ok (.goto (-27), 3) := F_MD_partner_0.2.2.2.2.2.2.2.2.2.2.2.2.2.2.2.2.2.2.2.2.2.2.2.2.2.2.2.2.2.1
theorem d_MD_partner_52 : decode prog_12_method_145_code 52 = .ok (.bipush (-2), 2) := F_MD_partner_0.2.2.2.2.2.2.2.2.2.2.2.2.2.2.2.2.2.2.2.2.2.2.2.2.2.2.2.2.2.2.1
theorem d_MD_partner_54 : decode prog_12_method_145_code 54 = .ok (.ireturn, 1) := F_MD_partner_0.2.2.2.2.2.2.2.2.2.2.2.2.2.2.2.2.2.2.2.2.2.2.2.2.2.2.2.2.2.2.2.1
theorem F_MD_likeness_0 : Jvm.Free.DS.Facts prog_12_method_146_code 0 [(.aload_n 0, 1), (.iconst 0, 1), (.putfield 74, 3), (.aload_n 0, 1), (.iload_n 1, 1), (.invokevirtual 238, 3), (.ifCond .eq (20), 3), (.aload_n 0, 1), (.iload_n 2, 1), (.invokevirtual 238, 3), (.ifCond .eq (12), 3), (.iload_n 3, 1), (.ifCond .lt (8), 3), (.iload_n 3, 1), (.iconst 1, 1), (.if_icmp .le (5), 3), (.iconst (-1), 1), (.ireturn, 1), (.iconst 0, 1), (.istore 4, 2), (.bipush (9), 2), (.istore 5, 2), (.iconst 0, 1), (.istore 6, 2), (.iload 6, 2), (.bipush (24), 2), (.if_icmp .ge (41), 3), (.aload_n 0, 1), (.iload_n 1, 1), (.iload_n 2, 1), (.iload 6, 2), (.invokevirtual 415, 3)] := Jvm.Free.DS.facts 0 _ (by decide +kernel) (by decide +kernel)
theorem d_MD_likeness_0 : decode prog_12_method_146_code 0 = .ok (.aload_n 0, 1) := F_MD_likeness_0.1
theorem d_MD_likeness_1 : decode prog_12_method_146_code 1 = .ok (.iconst 0, 1) := F_MD_likeness_0.2.1
theorem d_MD_likeness_2 : decode prog_12_method_146_code 2 = .ok (.putfield 74, 3) := F_MD_likeness_0.2.2.1
theorem d_MD_likeness_5 : decode prog_12_method_146_code 5 = .ok (.aload_n 0, 1) := F_MD_likeness_0.2.2.2.1
theorem d_MD_likeness_6 : decode prog_12_method_146_code 6 = .ok (.iload_n 1, 1) := F_MD_likeness_0.2.2.2.2.1
theorem d_MD_likeness_7 : decode prog_12_method_146_code 7 = .ok (.invokevirtual 238, 3) := F_MD_likeness_0.2.2.2.2.2.1
theorem d_MD_likeness_10 : decode prog_12_method_146_code 10 = .ok (.ifCond .eq (20), 3) := F_MD_likeness_0.2.2.2.2.2.2.1
theorem d_MD_likeness_13 : decode prog_12_method_146_code 13 = .ok (.aload_n 0, 1) := F_MD_likeness_0.2.2.2.2.2.2.2.1
theorem d_MD_likeness_14 : decode prog_12_method_146_code 14 = .ok (.iload_n 2, 1) := F_MD_likeness_0.2.2.2.2.2.2.2.2.1
theorem d_MD_likeness_15 : decode prog_12_method_146_code 15 = .ok (.invokevirtual 238, 3) := F_MD_likeness_0.2.2.2.2.2.2.2.2.2.1
theorem d_MD_likeness_18 : decode prog_12_method_146_code 18 = .ok (.ifCond .eq (12), 3) := F_MD_likeness_0.2.2.2.2.2.2.2.2.2.2.1
theorem d_MD_likeness_21 : decode prog_12_method_146_code 21 = .ok (.iload_n 3, 1) := F_MD_likeness_0.2.2.2.2.2.2.2.2.2.2.2.1
theorem d_MD_likeness_22 : decode prog_12_method_146_code 22 = .ok (.ifCond .lt (8), 3) := F_MD_likeness_0.2.2.2.2.2.2.2.2.2.2.2.2.1
theorem d_MD_likeness_25 : decode prog_12_method_146_code 25 = .ok (.iload_n 3, 1) := F_MD_likeness_0.2.2.2.2.2.2.2.2.2.2.2.2.2.1
theorem d_MD_likeness_26 : decode prog_12_method_146_code 26 = .ok (.iconst 1, 1) := F_MD_likeness_0.2.2.2.2.2.2.2.2.2.2.2.2.2.2.1
theorem d_MD_likeness_27 : decode prog_12_method_146_code 27 = .ok (.if_icmp .le (5), 3) := F_MD_likeness_0.2.2.2.2.2.2.2.2.2.2.2.2.2.2.2.1
theorem d_MD_likeness_30 : decode prog_12_method_146_code 30 = .ok (.iconst (-1), 1) := F_MD_likeness_0.2.2.2.2.2.2.2.2.2.2.2.2.2.2.2.2.1
theorem d_MD_likeness_31 : decode prog_12_method_146_code 31 = .ok (.ireturn, 1) := F_MD_likeness_0.2.2.2.2.2.2.2.2.2.2.2.2.2.2.2.2.2.1
theorem d_MD_likeness_32 : decode prog_12_method_146_code 32 = .ok (.iconst 0, 1) := F_MD_likeness_0.2.2.2.2.2.2.2.2.2.2.2.2.2.2.2.2.2.2.1
theorem d_MD_likeness_33 : decode prog_12_method_146_code 33 = .ok (.istore 4, 2) := F_MD_likeness_0.2.2.2.2.2.2.2.2.2.2.2.2.2.2.2.2.2.2.2.1
theorem d_MD_likeness_35 : decode prog_12_method_146_code 35 = .ok (.bipush (9), 2) := F_MD_likeness_0.2.2.2.2.2.2.2.2.2.2.2.2.2.2.2.2.2.2.2.2.1
theorem d_MD_likeness_37 : decode prog_12_method_146_code 37 = .ok (.istore 5, 2) := F_MD_likeness_0.2.2.2.2.2.2.2.2.2.2.2.2.2.2.2.2.2.2.2.2.2.1
theorem d_MD_likeness_39 : decode prog_12_method_146_code 39 = .ok (.iconst 0, 1) := F_MD_likeness_0.2.2.2.2.2.2.2.2.2.2.2.2.2.2.2.2.2.2.2.2.2.2.1
theorem d_MD_likeness_40 : decode prog_12_method_146_code 40 = .ok (.istore 6, 2) := F_MD_likeness_0.2.2.2.2.2.2.2.2.2.2.2.2.2.2.2.2.2.2.2.2.2.2.2.1
theorem d_MD_likeness_42 : decode prog_12_method_146_code 42 = .ok (.iload 6, 2) := F_MD_likeness_0.2.2.2.2.2.2.2.2.2.2.2.2.2.2.2.2.2.2.2.2.2.2.2.2.1
theorem d_MD_likeness_44 : decode prog_12_method_146_code 44 = .ok (.bipush (24), 2) := F_MD_likeness_0.2.2.2.2.2.2.2.2.2.2.2.2.2.2.2.2.2.2.2.2.2.2.2.2.2.1
theorem d_MD_likeness_46 : decode prog_12_method_146_code 46 = .ok (.if_icmp .ge (41), 3) := F_MD_likeness_0.2.2.2.2.2.2.2.2.2.2.2.2.2.2.2.2.2.2.2.2.2.2.2.2.2.2.1
theorem d_MD_likeness_49 : decode prog_12_method_146_code 49 = .ok (.aload_n 0, 1) := F_MD_likeness_0.2.2.2.2.2.2.2.2.2.2.2.2.2.2.2.2.2.2.2.2.2.2.2.2.2.2.2.1
theorem d_MD_likeness_50 : decode prog_12_method_146_code 50 = .ok (.iload_n 1, 1) := F_MD_likeness_0.2.2.2.2.2.2.2.2.2.2.2.2.2.2.2.2.2.2.2.2.2.2.2.2.2.2.2.2.1
theorem d_MD_likeness_51 : decode prog_12_method_146_code 51 = .ok (.iload_n 2, 1) := F_MD_likeness_0.2.2.2.2.2.2.2.2.2.2.2.2.2.2.2.2.2.2.2.2.2.2.2.2.2.2.2.2.2.1
theorem d_MD_likeness_52 : decode prog_12_method_146_code 52 = .ok (.iload 6, 2) := F_MD_likeness_0.2.2.2.2.2.2.2.2.2.2.2.2.2.2.2.2.2.2.2.2.2.2.2.2.2.2.2.2.2.2.1
theorem d_MD_likeness_54 : decode prog_12_method_146_code 54 = .ok (.invokevirtual 415, 3) := F_MD_likeness_0.2.2.2.2.2.2.2.2.2.2.2.2.2.2.2.2.2.2.2.2.2.2.2.2.2.2.2.2.2.2.2.1
theorem F_MD_likeness_57 : Jvm.Free.DS.Facts prog_12_method_146_code 57 [(.aload_n 0, 1), (.invokevirtual 323, 3), (.istore 7, 2), (.iload 7, 2), (.iload 5, 2), (.if_icmp .lt (6), 3), (.goto (11), 3), (.iload 6, 2), (.istore 4, 2), (.iload 7, 2), (.istore 5, 2), (.iinc 6 (1), 3), (.goto (-42), 3), (.iload_n 3, 1), (.ifCond .ne (8), 3), (.iload 5, 2), (.goto (5), 3), (.iload 4, 2), (.ireturn, 1)] := Jvm.Free.DS.facts 57 _ (by decide +kernel) (by decide +kernel)
theorem d_MD_likeness_57 : decode prog_12_method_146_code 57 = .ok (.aload_n 0, 1) := F_MD_likeness_57.1
theorem d_MD_likeness_58 : decode prog_12_method_146_code 58 = .ok (.invokevirtual 323, 3) := F_MD_likeness_57.2.1
theorem d_MD_likeness_61 : decode prog_12_method_146_code 61 = .ok (.istore 7, 2) := F_MD_likeness_57.2.2.1
theorem d_MD_likeness_63 : decode prog_12_method_146_code 63 = .ok (.iload 7, 2) := F_MD_likeness_57.2.2.2.1
theorem d_MD_likeness_65 : decode prog_12_method_146_code 65 = .ok (.iload 5, 2) := F_MD_likeness_57.2.2.2.2.1
theorem d_MD_likeness_67 : decode prog_12_method_146_code 67 = .ok (.if_icmp .lt (6), 3) := F_MD_likeness_57.2.2.2.2.2.1
theorem d_MD_likeness_70 : decode prog_12_method_146_code 70 = .ok (.goto (11), 3) := F_MD_likeness_57.2.2.2.2.2.2.1
theorem d_MD_likeness_73 : decode prog_12_method_146_code 73 = .ok (.iload 6, 2) := F_MD_likeness_57.2.2.2.2.2.2.2.1
theorem d_MD_likeness_75 : decode prog_12_method_146_code 75 = .ok (.istore 4, 2) := F_MD_likeness_57.2.2.2.2.2.2.2.2.1
theorem d_MD_likeness_77 : decode prog_12_method_146_code 77 = .ok (.iload 7, 2) := F_MD_likeness_57.2.2.2.2.2.2.2.2.2.1
theorem d_MD_likeness_79 : decode prog_12_method_146_code 79 = .ok (.istore 5, 2) := F_MD_likeness_57.2.2.2.2.2.2.2.2.2.2.1
theorem d_MD_likeness_81 : decode prog_12_method_146_code 81 = .ok (.iinc 6 (1), 3) := F_MD_likeness_57.2.2.2.2.2.2.2.2.2.2.2.1
theorem d_MD_likeness_84 : decode prog_12_method_146_code 84 = .ok (.goto (-42), 3) := F_MD_likeness_57.2.2.2.2.2.2.2.2.2.2.2.2.1
theorem d_MD_likeness_87 : decode prog_12_method_146_code 87 = .ok (.iload_n 3, 1) := F_MD_likeness_57.2.2.2.2.2.2.2.2.2.2.2.2.2.1
theorem d_MD_likeness_88 : decode prog_12_method_146_code 88 = .ok (.ifCond .ne (8), 3) := F_MD_likeness_57.2.2.2.2.2.2.2.2.2.2.2.2.2.2.1
theorem d_MD_likeness_91 : decode prog_12_method_146_code 91 = .ok (.iload 5, 2) := F_MD_likeness_57.2.2.2.2.2.2.2.2.2.2.2.2.2.2.2.1
theorem d_MD_likeness_93 : decode prog_12_method_146_code 93 = .ok (.goto (5), 3) := F_MD_likeness_57.2.2.2.2.2.2.2.2.2.2.2.2.2.2.2.2.1
theorem d_MD_likeness_96 : decode prog_12_method_146_code 96 = .ok (.iload 4, 2) := F_MD_likeness_57.2.2.2.2.2.2.2.2.2.2.2.2.2.2.2.2.2.1
theorem d_MD_likeness_98 : decode prog_12_method_146_code 98 = .ok (.ireturn, 1) := F_MD_likeness_57.2.2.2.2.2.2.2.2.2.2.2.2.2.2.2.2.2.2.1
theorem F_MD_biggest_0 : Jvm.Free.DS.Facts prog_12_method_147_code 0 [(.aload_n 0, 1), (.iconst 0, 1), (.putfield 74, 3), (.iload_n 1, 1), (.ifCond .lt (8), 3), (.iload_n 1, 1), (.iconst 1, 1), (.if_icmp .le (5), 3), (.iconst (-1), 1), (.ireturn, 1), (.bipush (-2), 2), (.istore_n 2, 1), (.iconst 0, 1), (.istore_n 3, 1), (.iload_n 3, 1), (.i2l, 1), (.aload_n 0, 1), (.getfield 21, 3), (.sipush (168), 3), (.laload, 1), (.lcmp, 1), (.ifCond .ge (57), 3), (.iload_n 2, 1), (.bipush (-2), 2), (.if_icmp .ne (7), 3), (.iconst 0, 1), (.goto (14), 3), (.aload_n 0, 1), (.iload_n 3, 1), (.invokevirtual 464, 3), (.aload_n 0, 1), (.iload_n 2, 1)] := Jvm.Free.DS.facts 0 _ (by decide +kernel) (by decide +kernel)
theorem d_MD_biggest_0 : decode prog_12_method_147_code 0 = .ok (.aload_n 0, 1) := F_MD_biggest_0.1
theorem d_MD_biggest_1 : decode prog_12_method_147_code 1 = .ok (.iconst 0, 1) := F_MD_biggest_0.2.1
theorem d_MD_biggest_2 : decode prog_12_method_147_code 2 = .ok (.putfield 74, 3) := F_MD_biggest_0.2.2.1
theorem d_MD_biggest_5 : decode prog_12_method_147_code 5 = .ok (.iload_n 1, 1) := F_MD_biggest_0.2.2.2.1
theorem d_MD_biggest_6 : decode prog_12_method_147_code 6 = .ok (.ifCond .lt (8), 3) := F_MD_biggest_0.2.2.2.2.1
theorem d_MD_biggest_9 : decode prog_12_method_147_code 9 = .ok (.iload_n 1, 1) := F_MD_biggest_0.2.2.2.2.2.1
theorem d_MD_biggest_10 : decode prog_12_method_147_code 10 = .ok (.iconst 1, 1) := F_MD_biggest_0.2.2.2.2.2.2.1
theorem d_MD_biggest_11 : decode prog_12_method_147_code 11 = .ok (.if_icmp .le (5), 3) := F_MD_biggest_0.2.2.2.2.2.2.2.1
theorem d_MD_biggest_14 : decode prog_12_method_147_code 14 = .ok (.iconst (-1), 1) := F_MD_biggest_0.2.2.2.2.2.2.2.2.1
theorem d_MD_biggest_15 : decode prog_12_method_147_code 15 = .ok (.ireturn, 1) := F_MD_biggest_0.2.2.2.2.2.2.2.2.2.1
theorem d_MD_biggest_16 : decode prog_12_method_147_code 16 = .ok (.bipush (-2), 2) := F_MD_biggest_0.2.2.2.2.2.2.2.2.2.2.1
theorem d_MD_biggest_18 : decode prog_12_method_147_code 18 = .ok (.istore_n 2, 1) := F_MD_biggest_0.2.2.2.2.2.2.2.2.2.2.2.1
theorem d_MD_biggest_19 : decode prog_12_method_147_code 19 = .ok (.iconst 0, 1) := F_MD_biggest_0.2.2.2.2.2.2.2.2.2.2.2.2.1
theorem d_MD_biggest_20 : decode prog_12_method_147_code 20 = .ok (.istore_n 3, 1) := F_MD_biggest_0.2.2.2.2.2.2.2.2.2.2.2.2.2.1
theorem d_MD_biggest_21 : decode prog_12_method_147_code 21 = .ok (.iload_n 3, 1) := F_MD_biggest_0.2.2.2.2.2.2.2.2.2.2.2.2.2.2.1
theorem d_MD_biggest_22 : decode prog_12_method_147_code 22 = .ok (.i2l, 1) := F_MD_biggest_0.2.2.2.2.2.2.2.2.2.2.2.2.2.2.2.1
theorem d_MD_biggest_23 : decode prog_12_method_147_code 23 = .ok (.aload_n 0, 1) := F_MD_biggest_0.2.2.2.2.2.2.2.2.2.2.2.2.2.2.2.2.1
theorem d_MD_biggest_24 : decode prog_12_method_147_code 24 = .ok (.getfield 21, 3) := F_MD_biggest_0.2.2.2.2.2.2.2.2.2.2.2.2.2.2.2.2.2.1
theorem d_MD_biggest_27 : decode prog_12_method_147_code 27 = .ok (.sipush (168), 3) := F_MD_biggest_0.2.2.2.2.2.2.2.2.2.2.2.2.2.2.2.2.2.2.1
theorem d_MD_biggest_30 : decode prog_12_method_147_code 30 = .ok (.laload, 1) := F_MD_biggest_0.2.2.2.2.2.2.2.2.2.2.2.2.2.2.2.2.2.2.2.1
theorem d_MD_biggest_31 : decode prog_12_method_147_code 31 = .ok (.lcmp, 1) := F_MD_biggest_0.2.2.2.2.2.2.2.2.2.2.2.2.2.2.2.2.2.2.2.2.1
theorem d_MD_biggest_32 : decode prog_12_method_147_code 32 = .ok (.ifCond .ge (57), 3) := F_MD_biggest_0.2.2.2.2.2.2.2.2.2.2.2.2.2.2.2.2.2.2.2.2.2.1
theorem d_MD_biggest_35 : decode prog_12_method_147_code 35 = .ok (.iload_n 2, 1) := F_MD_biggest_0.2.2.2.2.2.2.2.2.2.2.2.2.2.2.2.2.2.2.2.2.2.2.1
theorem d_MD_biggest_36 : decode prog_12_method_147_code 36 = .ok (.bipush (-2), 2) := F_MD_biggest_0.2.2.2.2.2.2.2.2.2.2.2.2.2.2.2.2.2.2.2.2.2.2.2.1
theorem d_MD_biggest_38 : decode prog_12_method_147_code 38 = .ok (.if_icmp .ne (7), 3) := F_MD_biggest_0.2.2.2.2.2.2.2.2.2.2.2.2.2.2.2.2.2.2.2.2.2.2.2.2.1
theorem d_MD_biggest_41 : decode prog_12_method_147_code 41 = .ok (.iconst 0, 1) := F_MD_biggest_0.2.2.2.2.2.2.2.2.2.2.2.2.2.2.2.2.2.2.2.2.2.2.2.2.2.1
theorem d_MD_biggest_42 : decode prog_12_method_147_code 42 = .ok (.goto (14), 3) := F_MD_biggest_0.2.2.2.2.2.2.2.2.2.2.2.2.2.2.2.2.2.2.2.2.2.2.2.2.2.2.1
theorem d_MD_biggest_45 : decode prog_12_method_147_code 45 = .ok (.aload_n 0, 1) := F_MD_biggest_0.2.2.2.2.2.2.2.2.2.2.2.2.2.2.2.2.2.2.2.2.2.2.2.2.2.2.2.1
theorem d_MD_biggest_46 : decode prog_12_method_147_code 46 = .ok (.iload_n 3, 1) := F_MD_biggest_0.2.2.2.2.2.2.2.2.2.2.2.2.2.2.2.2.2.2.2.2.2.2.2.2.2.2.2.2.1
theorem d_MD_biggest_47 : decode prog_12_method_147_code 47 = .ok (.invokevirtual 464, 3) := F_MD_biggest_0.2.2.2.2.2.2.2.2.2.2.2.2.2.2.2.2.2.2.2.2.2.2.2.2.2.2.2.2.2.1
theorem d_MD_biggest_50 : decode prog_12_method_147_code 50 = .ok (.aload_n 0, 1) := F_MD_biggest_0.2.2.2.2.2.2.2.2.2.2.2.2.2.2.2.2.2.2.2.2.2.2.2.2.2.2.2.2.2.2.1
theorem d_MD_biggest_51 : decode prog_12_method_147_code 51 = .ok (.iload_n 2, 1) := F_MD_biggest_0.2.2.2.2.2.2.2.2.2.2.2.2.2.2.2.2.2.2.2.2.2.2.2.2.2.2.2.2.2.2.2.1
theorem F_MD_biggest_52 : Jvm.Free.DS.Facts prog_12_method_147_code 52 [(.invokevirtual 464, 3), (.isub, 1), (.istore 4, 2), (.iload_n 2, 1), (.bipush (-2), 2), (.if_icmp .eq (20), 3), (.iload_n 1, 1), (.ifCond .ne (11), 3), (.iload 4, 2), (.ifCond .le (13), 3), (.goto (8), 3), (.iload 4, 2), (.ifCond .ge (5), 3), (.iload_n 3, 1), (.istore_n 2, 1), (.iinc 3 (1), 3), (.goto (-65), 3), (.iload_n 2, 1), (.ireturn, 1)] := Jvm.Free.DS.facts 52 _ (by decide +kernel) (by decide +kernel)
theorem d_MD_biggest_52 : decode prog_12_method_147_code 52 = .ok (.invokevirtual 464, 3) := F_MD_biggest_52.1
theorem d_MD_biggest_55 : decode prog_12_method_147_code 55 = .ok (.isub, 1) := F_MD_biggest_52.2.1
theorem d_MD_biggest_56 : decode prog_12_method_147_code 56 = .ok (.istore 4, 2) := F_MD_biggest_52.2.2.1
theorem d_MD_biggest_58 : decode prog_12_method_147_code 58 = .ok (.iload_n 2, 1) := F_MD_biggest_52.2.2.2.1
theorem d_MD_biggest_59 : decode prog_12_method_147_code 59 = .ok (.bipush (-2), 2) := F_MD_biggest_52.2.2.2.2.1
theorem d_MD_biggest_61 : decode prog_12_method_147_code 61 = .ok (.if_icmp .eq (20), 3) := F_MD_biggest_52.2.2.2.2.2.1
theorem d_MD_biggest_64 : decode prog_12_method_147_code 64 = .ok (.iload_n 1, 1) := F_MD_biggest_52.2.2.2.2.2.2.1
theorem d_MD_biggest_65 : decode prog_12_method_147_code 65 = .ok (.ifCond .ne (11), 3) := F_MD_biggest_52.2.2.2.2.2.2.2.1
theorem d_MD_biggest_68 : decode prog_12_method_147_code 68 = .ok (.iload 4, 2) := F_MD_biggest_52.2.2.2.2.2.2.2.2.1
theorem d_MD_biggest_70 : decode prog_12_method_147_code 70 = .ok (.ifCond .le (13), 3) := F_MD_biggest_52.2.2.2.2.2.2.2.2.2.1
theorem d_MD_biggest_73 : decode prog_12_method_147_code 73 = .ok (.goto (8), 3) := F_MD_biggest_52.2.2.2.2.2.2.2.2.2.2.1
theorem d_MD_biggest_76 : decode prog_12_method_147_code 76 = .ok (.iload 4, 2) := F_MD_biggest_52.2.2.2.2.2.2.2.2.2.2.2.1
theorem d_MD_biggest_78 : decode prog_12_method_147_code 78 = .ok (.ifCond .ge (5), 3) := F_MD_biggest_52.2.2.2.2.2.2.2.2.2.2.2.2.1
theorem d_MD_biggest_81 : decode prog_12_method_147_code 81 = .ok (.iload_n 3, 1) := F_MD_biggest_52.2.2.2.2.2.2.2.2.2.2.2.2.2.1
theorem d_MD_biggest_82 : decode prog_12_method_147_code 82 = .ok (.istore_n 2, 1) := F_MD_biggest_52.2.2.2.2.2.2.2.2.2.2.2.2.2.2.1
theorem d_MD_biggest_83 : decode prog_12_method_147_code 83 = .ok (.iinc 3 (1), 3) := F_MD_biggest_52.2.2.2.2.2.2.2.2.2.2.2.2.2.2.2.1
theorem d_MD_biggest_86 : decode prog_12_method_147_code 86 = .ok (.goto (-65), 3) := F_MD_biggest_52.2.2.2.2.2.2.2.2.2.2.2.2.2.2.2.2.1
theorem d_MD_biggest_89 : decode prog_12_method_147_code 89 = .ok (.iload_n 2, 1) := F_MD_biggest_52.2.2.2.2.2.2.2.2.2.2.2.2.2.2.2.2.2.1
theorem d_MD_biggest_90 : decode prog_12_method_147_code 90 = .ok (.ireturn, 1) := F_MD_biggest_52.2.2.2.2.2.2.2.2.2.2.2.2.2.2.2.2.2.2.1
theorem F_MD_sizeOf_0 : Jvm.Free.DS.Facts prog_12_method_159_code 0 [(.lconst 0, 1), (.lstore_n 2, 1), (.iconst 0, 1), (.istore 4, 2), (.iload 4, 2), (.bipush (9), 2), (.if_icmp .ge (29), 3), (.lload_n 2, 1), (.aload_n 0, 1), (.getfield 21, 3), (.bipush (9), 2), (.iload_n 1, 1), (.imul, 1), (.iload 4, 2), (.iadd, 1), (.laload, 1), (.invokestatic 210, 3), (.invokestatic 374, 3), (.lstore_n 2, 1), (.iinc 4 (1), 3), (.goto (-30), 3), (.lload_n 2, 1), (.l2i, 1), (.ireturn, 1)] := Jvm.Free.DS.facts 0 _ (by decide +kernel) (by decide +kernel)
theorem d_MD_sizeOf_0 : decode prog_12_method_159_code 0 = .ok (.lconst 0, 1) := F_MD_sizeOf_0.1
theorem d_MD_sizeOf_1 : decode prog_12_method_159_code 1 = .ok (.lstore_n 2, 1) := F_MD_sizeOf_0.2.1
theorem d_MD_sizeOf_2 : decode prog_12_method_159_code 2 = .ok (.iconst 0, 1) := F_MD_sizeOf_0.2.2.1
theorem d_MD_sizeOf_3 : decode prog_12_method_159_code 3 = .ok (.istore 4, 2) := F_MD_sizeOf_0.2.2.2.1
theorem d_MD_sizeOf_5 : decode prog_12_method_159_code 5 = .ok (.iload 4, 2) := F_MD_sizeOf_0.2.2.2.2.1
theorem d_MD_sizeOf_7 : decode prog_12_method_159_code 7 = .ok (.bipush (9), 2) := F_MD_sizeOf_0.2.2.2.2.2.1
theorem d_MD_sizeOf_9 : decode prog_12_method_159_code 9 = .ok (.if_icmp .ge (29), 3) := F_MD_sizeOf_0.2.2.2.2.2.2.1
theorem d_MD_sizeOf_12 : decode prog_12_method_159_code 12 = .ok (.lload_n 2, 1) := F_MD_sizeOf_0.2.2.2.2.2.2.2.1
theorem d_MD_sizeOf_13 : decode prog_12_method_159_code 13 = .ok (.aload_n 0, 1) := F_MD_sizeOf_0.2.2.2.2.2.2.2.2.1
theorem d_MD_sizeOf_14 : decode prog_12_method_159_code 14 = .ok (.getfield 21, 3) := F_MD_sizeOf_0.2.2.2.2.2.2.2.2.2.1
theorem d_MD_sizeOf_17 : decode prog_12_method_159_code 17 = .ok (.bipush (9), 2) := F_MD_sizeOf_0.2.2.2.2.2.2.2.2.2.2.1
theorem d_MD_sizeOf_19 : decode prog_12_method_159_code 19 = .ok (.iload_n 1, 1) := F_MD_sizeOf_0.2.2.2.2.2.2.2.2.2.2.2.1
theorem d_MD_sizeOf_20 : decode prog_12_method_159_code 20 = .ok (.imul, 1) := F_MD_sizeOf_0.2.2.2.2.2.2.2.2.2.2.2.2.1
theorem d_MD_sizeOf_21 : decode prog_12_method_159_code 21 = .ok (.iload 4, 2) := F_MD_sizeOf_0.2.2.2.2.2.2.2.2.2.2.2.2.2.1
theorem d_MD_sizeOf_23 : decode prog_12_method_159_code 23 = .ok (.iadd, 1) := F_MD_sizeOf_0.2.2.2.2.2.2.2.2.2.2.2.2.2.2.1
theorem d_MD_sizeOf_24 : decode prog_12_method_159_code 24 = .ok (.laload, 1) := F_MD_sizeOf_0.2.2.2.2.2.2.2.2.2.2.2.2.2.2.2.1
theorem d_MD_sizeOf_25 : decode prog_12_method_159_code 25 = .ok (.invokestatic 210, 3) := F_MD_sizeOf_0.2.2.2.2.2.2.2.2.2.2.2.2.2.2.2.2.1
theorem d_MD_sizeOf_28 : decode prog_12_method_159_code 28 = .ok (.invokestatic 374, 3) := F_MD_sizeOf_0.2.2.2.2.2.2.2.2.2.2.2.2.2.2.2.2.2.1
theorem d_MD_sizeOf_31 : decode prog_12_method_159_code 31 = .ok (.lstore_n 2, 1) := F_MD_sizeOf_0.2.2.2.2.2.2.2.2.2.2.2.2.2.2.2.2.2.2.1
theorem d_MD_sizeOf_32 : decode prog_12_method_159_code 32 = .ok (.iinc 4 (1), 3) := F_MD_sizeOf_0.2.2.2.2.2.2.2.2.2.2.2.2.2.2.2.2.2.2.2.1
theorem d_MD_sizeOf_35 : decode prog_12_method_159_code 35 = .ok (.goto (-30), 3) := F_MD_sizeOf_0.2.2.2.2.2.2.2.2.2.2.2.2.2.2.2.2.2.2.2.2.1
theorem d_MD_sizeOf_38 : decode prog_12_method_159_code 38 = .ok (.lload_n 2, 1) := F_MD_sizeOf_0.2.2.2.2.2.2.2.2.2.2.2.2.2.2.2.2.2.2.2.2.2.1
theorem d_MD_sizeOf_39 : decode prog_12_method_159_code 39 = .ok (.l2i, 1) := F_MD_sizeOf_0.2.2.2.2.2.2.2.2.2.2.2.2.2.2.2.2.2.2.2.2.2.2.1
theorem d_MD_sizeOf_40 : decode prog_12_method_159_code 40 = .ok (.ireturn, 1) := F_MD_sizeOf_0.2.2.2.2.2.2.2.2.2.2.2.2.2.2.2.2.2.2.2.2.2.2.2.1
theorem F_MD_kinds_0 : Jvm.Free.DS.Facts prog_12_method_148_code 0 [(.aload_n 0, 1), (.iconst 0, 1), (.putfield 74, 3), (.iload_n 1, 1), (.ifCond .lt (8), 3), (.iload_n 1, 1), (.iconst 5, 1), (.if_icmp .le (5), 3), (.iconst (-1), 1), (.ireturn, 1), (.iconst 0, 1), (.istore_n 2, 1), (.iconst 0, 1), (.istore_n 3, 1), (.iload_n 3, 1), (.i2l, 1), (.aload_n 0, 1), (.getfield 21, 3), (.sipush (168), 3), (.laload, 1), (.lcmp, 1), (.ifCond .ge (34), 3), (.aload_n 0, 1), (.aload_n 0, 1), (.getfield 41, 3), (.iload_n 3, 1), (.invokevirtual 274, 3), (.iload_n 2, 1), (.aload_n 0, 1), (.invokevirtual 323, 3), (.iload_n 1, 1), (.if_icmp .ne (7), 3)] := Jvm.Free.DS.facts 0 _ (by decide +kernel) (by decide +kernel)
theorem d_MD_kinds_0 : decode prog_12_method_148_code 0 = .ok (.aload_n 0, 1) := F_MD_kinds_0.1
theorem d_MD_kinds_1 : decode prog_12_method_148_code 1 = .ok (.iconst 0, 1) := F_MD_kinds_0.2.1
theorem d_MD_kinds_2 : decode prog_12_method_148_code 2 = .ok (.putfield 74, 3) := F_MD_kinds_0.2.2.1
theorem d_MD_kinds_5 : decode prog_12_method_148_code 5 = .ok (.iload_n 1, 1) := F_MD_kinds_0.2.2.2.1
theorem d_MD_kinds_6 : decode prog_12_method_148_code 6 = .ok (.ifCond .lt (8), 3) := F_MD_kinds_0.2.2.2.2.1
theorem d_MD_kinds_9 : decode prog_12_method_148_code 9 = .ok (.iload_n 1, 1) := F_MD_kinds_0.2.2.2.2.2.1
theorem d_MD_kinds_10 : decode prog_12_method_148_code 10 = .ok (.iconst 5, 1) := F_MD_kinds_0.2.2.2.2.2.2.1
theorem d_MD_kinds_11 : decode prog_12_method_148_code 11 = .ok (.if_icmp .le (5), 3) := F_MD_kinds_0.2.2.2.2.2.2.2.1
theorem d_MD_kinds_14 : decode prog_12_method_148_code 14 = .ok (.iconst (-1), 1) := F_MD_kinds_0.2.2.2.2.2.2.2.2.1
theorem d_MD_kinds_15 : decode prog_12_method_148_code 15 = .ok (.ireturn, 1) := F_MD_kinds_0.2.2.2.2.2.2.2.2.2.1
theorem d_MD_kinds_16 : decode prog_12_method_148_code 16 = .ok (.iconst 0, 1) := F_MD_kinds_0.2.2.2.2.2.2.2.2.2.2.1
theorem d_MD_kinds_17 : decode prog_12_method_148_code 17 = .ok (.istore_n 2, 1) := F_MD_kinds_0.2.2.2.2.2.2.2.2.2.2.2.1
theorem d_MD_kinds_18 : decode prog_12_method_148_code 18 = .ok (.iconst 0, 1) := F_MD_kinds_0.2.2.2.2.2.2.2.2.2.2.2.2.1
theorem d_MD_kinds_19 : decode prog_12_method_148_code 19 = .ok (.istore_n 3, 1) := F_MD_kinds_0.2.2.2.2.2.2.2.2.2.2.2.2.2.1
theorem d_MD_kinds_20 : decode prog_12_method_148_code 20 = .ok (.iload_n 3, 1) := F_MD_kinds_0.2.2.2.2.2.2.2.2.2.2.2.2.2.2.1
theorem d_MD_kinds_21 : decode prog_12_method_148_code 21 = .ok (.i2l, 1) := F_MD_kinds_0.2.2.2.2.2.2.2.2.2.2.2.2.2.2.2.1
theorem d_MD_kinds_22 : decode prog_12_method_148_code 22 = .ok (.aload_n 0, 1) := F_MD_kinds_0.2.2.2.2.2.2.2.2.2.2.2.2.2.2.2.2.1
theorem d_MD_kinds_23 : decode prog_12_method_148_code 23 = .ok (.getfield 21, 3) := F_MD_kinds_0.2.2.2.2.2.2.2.2.2.2.2.2.2.2.2.2.2.1
theorem d_MD_kinds_26 : decode prog_12_method_148_code 26 = .ok (.sipush (168), 3) := F_MD_kinds_0.2.2.2.2.2.2.2.2.2.2.2.2.2.2.2.2.2.2.1
theorem d_MD_kinds_29 : decode prog_12_method_148_code 29 = .ok (.laload, 1) := F_MD_kinds_0.2.2.2.2.2.2.2.2.2.2.2.2.2.2.2.2.2.2.2.1
theorem d_MD_kinds_30 : decode prog_12_method_148_code 30 = .ok (.lcmp, 1) := F_MD_kinds_0.2.2.2.2.2.2.2.2.2.2.2.2.2.2.2.2.2.2.2.2.1
theorem d_MD_kinds_31 : decode prog_12_method_148_code 31 = .ok (.ifCond .ge (34), 3) := F_MD_kinds_0.2.2.2.2.2.2.2.2.2.2.2.2.2.2.2.2.2.2.2.2.2.1
theorem d_MD_kinds_34 : decode prog_12_method_148_code 34 = .ok (.aload_n 0, 1) := F_MD_kinds_0.2.2.2.2.2.2.2.2.2.2.2.2.2.2.2.2.2.2.2.2.2.2.1
theorem d_MD_kinds_35 : decode prog_12_method_148_code 35 = .ok (.aload_n 0, 1) := F_MD_kinds_0.2.2.2.2.2.2.2.2.2.2.2.2.2.2.2.2.2.2.2.2.2.2.2.1
theorem d_MD_kinds_36 : decode prog_12_method_148_code 36 = .ok (.getfield 41, 3) := F_MD_kinds_0.2.2.2.2.2.2.2.2.2.2.2.2.2.2.2.2.2.2.2.2.2.2.2.2.1
theorem d_MD_kinds_39 : decode prog_12_method_148_code 39 = .ok (.iload_n 3, 1) := F_MD_kinds_0.2.2.2.2.2.2.2.2.2.2.2.2.2.2.2.2.2.2.2.2.2.2.2.2.2.1
theorem d_MD_kinds_40 : decode prog_12_method_148_code 40 = .ok (.invokevirtual 274, 3) := F_MD_kinds_0.2.2.2.2.2.2.2.2.2.2.2.2.2.2.2.2.2.2.2.2.2.2.2.2.2.2.1
theorem d_MD_kinds_43 : decode prog_12_method_148_code 43 = .ok (.iload_n 2, 1) := F_MD_kinds_0.2.2.2.2.2.2.2.2.2.2.2.2.2.2.2.2.2.2.2.2.2.2.2.2.2.2.2.1
theorem d_MD_kinds_44 : decode prog_12_method_148_code 44 = .ok (.aload_n 0, 1) := F_MD_kinds_0.2.2.2.2.2.2.2.2.2.2.2.2.2.2.2.2.2.2.2.2.2.2.2.2.2.2.2.2.1
theorem d_MD_kinds_45 : decode prog_12_method_148_code 45 = .ok (.invokevirtual 323, 3) := F_MD_kinds_0.2.2.2.2.2.2.2.2.2.2.2.2.2.2.2.2.2.2.2.2.2.2.2.2.2.2.2.2.2.1
theorem d_MD_kinds_48 : decode prog_12_method_148_code 48 = .ok (.iload_n 1, 1) := F_MD_kinds_0.2.2.2.2.2.2.2.2.2.2.2.2.2.2.2.2.2.2.2.2.2.2.2.2.2.2.2.2.2.2.1
theorem d_MD_kinds_49 : decode prog_12_method_148_code 49 = .ok (.if_icmp .ne (7), 3) := F_MD_kinds_0.2.2.2.2.2.2.2.2.2.2.2.2.2.2.2.2.2.2.2.2.2.2.2.2.2.2.2.2.2.2.2.1
theorem F_MD_kinds_52 : Jvm.Free.DS.Facts prog_12_method_148_code 52 [(.iconst 1, 1), (.goto (4), 3), (.iconst 0, 1), (.iadd, 1), (.istore_n 2, 1), (.iinc 3 (1), 3), (.goto (-42), 3), (.iload_n 2, 1), (.ireturn, 1)] := Jvm.Free.DS.facts 52 _ (by decide +kernel) (by decide +kernel)
theorem d_MD_kinds_52 : decode prog_12_method_148_code 52 = .ok (.iconst 1, 1) := F_MD_kinds_52.1
theorem d_MD_kinds_53 : decode prog_12_method_148_code 53 = .ok (.goto (4), 3) := F_MD_kinds_52.2.1
theorem d_MD_kinds_56 : decode prog_12_method_148_code 56 = .ok (.iconst 0, 1) := F_MD_kinds_52.2.2.1
theorem d_MD_kinds_57 : decode prog_12_method_148_code 57 = .ok (.iadd, 1) := F_MD_kinds_52.2.2.2.1
theorem d_MD_kinds_58 : decode prog_12_method_148_code 58 = .ok (.istore_n 2, 1) := F_MD_kinds_52.2.2.2.2.1
theorem d_MD_kinds_59 : decode prog_12_method_148_code 59 = .ok (.iinc 3 (1), 3) := F_MD_kinds_52.2.2.2.2.2.1
theorem d_MD_kinds_62 : decode prog_12_method_148_code 62 = .ok (.goto (-42), 3) := F_MD_kinds_52.2.2.2.2.2.2.1
theorem d_MD_kinds_65 : decode prog_12_method_148_code 65 = .ok (.iload_n 2, 1) := F_MD_kinds_52.2.2.2.2.2.2.2.1
theorem d_MD_kinds_66 : decode prog_12_method_148_code 66 = .ok (.ireturn, 1) := F_MD_kinds_52.2.2.2.2.2.2.2.2.1
theorem F_MD_pairs_0 : Jvm.Free.DS.Facts prog_12_method_149_code 0 [(.aload_n 0, 1), (.iconst 0, 1), (.putfield 74, 3), (.iload_n 1, 1), (.ifCond .lt (8), 3), (.iload_n 1, 1), (.iconst 2, 1), (.if_icmp .le (5), 3), (.iconst (-1), 1), (.ireturn, 1), (.iconst 0, 1), (.istore_n 2, 1), (.iconst 0, 1), (.istore_n 3, 1), (.iload_n 3, 1), (.i2l, 1), (.aload_n 0, 1), (.getfield 21, 3), (.sipush (168), 3), (.laload, 1), (.lcmp, 1), (.ifCond .ge (54), 3), (.iload_n 3, 1), (.iconst 1, 1), (.iadd, 1), (.istore 4, 2), (.iload 4, 2), (.i2l, 1), (.aload_n 0, 1), (.getfield 21, 3), (.sipush (168), 3), (.laload, 1)] := Jvm.Free.DS.facts 0 _ (by decide +kernel) (by decide +kernel)
theorem d_MD_pairs_0 : decode prog_12_method_149_code 0 = .ok (.aload_n 0, 1) := F_MD_pairs_0.1
theorem d_MD_pairs_1 : decode prog_12_method_149_code 1 = .ok (.iconst 0, 1) := F_MD_pairs_0.2.1
theorem d_MD_pairs_2 : decode prog_12_method_149_code 2 = .ok (.putfield 74, 3) := F_MD_pairs_0.2.2.1
theorem d_MD_pairs_5 : decode prog_12_method_149_code 5 = .ok (.iload_n 1, 1) := F_MD_pairs_0.2.2.2.1
theorem d_MD_pairs_6 : decode prog_12_method_149_code 6 = .ok (.ifCond .lt (8), 3) := F_MD_pairs_0.2.2.2.2.1
theorem d_MD_pairs_9 : decode prog_12_method_149_code 9 = .ok (.iload_n 1, 1) := F_MD_pairs_0.2.2.2.2.2.1
theorem d_MD_pairs_10 : decode prog_12_method_149_code 10 = .ok (.iconst 2, 1) := F_MD_pairs_0.2.2.2.2.2.2.1
theorem d_MD_pairs_11 : decode prog_12_method_149_code 11 = .ok (.if_icmp .le (5), 3) := F_MD_pairs_0.2.2.2.2.2.2.2.1
theorem d_MD_pairs_14 : decode prog_12_method_149_code 14 = .ok (.iconst (-1), 1) := F_MD_pairs_0.2.2.2.2.2.2.2.2.1
theorem d_MD_pairs_15 : decode prog_12_method_149_code 15 = .ok (.ireturn, 1) := F_MD_pairs_0.2.2.2.2.2.2.2.2.2.1
theorem d_MD_pairs_16 : decode prog_12_method_149_code 16 = .ok (.iconst 0, 1) := F_MD_pairs_0.2.2.2.2.2.2.2.2.2.2.1
theorem d_MD_pairs_17 : decode prog_12_method_149_code 17 = .ok (.istore_n 2, 1) := F_MD_pairs_0.2.2.2.2.2.2.2.2.2.2.2.1
theorem d_MD_pairs_18 : decode prog_12_method_149_code 18 = .ok (.iconst 0, 1) := F_MD_pairs_0.2.2.2.2.2.2.2.2.2.2.2.2.1
theorem d_MD_pairs_19 : decode prog_12_method_149_code 19 = .ok (.istore_n 3, 1) := F_MD_pairs_0.2.2.2.2.2.2.2.2.2.2.2.2.2.1
theorem d_MD_pairs_20 : decode prog_12_method_149_code 20 = .ok (.iload_n 3, 1) := F_MD_pairs_0.2.2.2.2.2.2.2.2.2.2.2.2.2.2.1
theorem d_MD_pairs_21 : decode prog_12_method_149_code 21 = .ok (.i2l, 1) := F_MD_pairs_0.2.2.2.2.2.2.2.2.2.2.2.2.2.2.2.1
theorem d_MD_pairs_22 : decode prog_12_method_149_code 22 = .ok (.aload_n 0, 1) := F_MD_pairs_0.2.2.2.2.2.2.2.2.2.2.2.2.2.2.2.2.1
theorem d_MD_pairs_23 : decode prog_12_method_149_code 23 = .ok (.getfield 21, 3) := F_MD_pairs_0.2.2.2.2.2.2.2.2.2.2.2.2.2.2.2.2.2.1
theorem d_MD_pairs_26 : decode prog_12_method_149_code 26 = .ok (.sipush (168), 3) := F_MD_pairs_0.2.2.2.2.2.2.2.2.2.2.2.2.2.2.2.2.2.2.1
theorem d_MD_pairs_29 : decode prog_12_method_149_code 29 = .ok (.laload, 1) := F_MD_pairs_0.2.2.2.2.2.2.2.2.2.2.2.2.2.2.2.2.2.2.2.1
theorem d_MD_pairs_30 : decode prog_12_method_149_code 30 = .ok (.lcmp, 1) := F_MD_pairs_0.2.2.2.2.2.2.2.2.2.2.2.2.2.2.2.2.2.2.2.2.1
theorem d_MD_pairs_31 : decode prog_12_method_149_code 31 = .ok (.ifCond .ge (54), 3) := F_MD_pairs_0.2.2.2.2.2.2.2.2.2.2.2.2.2.2.2.2.2.2.2.2.2.1
theorem d_MD_pairs_34 : decode prog_12_method_149_code 34 = .ok (.iload_n 3, 1) := F_MD_pairs_0.2.2.2.2.2.2.2.2.2.2.2.2.2.2.2.2.2.2.2.2.2.2.1
theorem d_MD_pairs_35 : decode prog_12_method_149_code 35 = .ok (.iconst 1, 1) := F_MD_pairs_0.2.2.2.2.2.2.2.2.2.2.2.2.2.2.2.2.2.2.2.2.2.2.2.1
theorem d_MD_pairs_36 : decode prog_12_method_149_code 36 = .ok (.iadd, 1) := F_MD_pairs_0.2.2.2.2.2.2.2.2.2.2.2.2.2.2.2.2.2.2.2.2.2.2.2.2.1
theorem d_MD_pairs_37 : decode prog_12_method_149_code 37 = .ok (.istore 4, 2) := F_MD_pairs_0.2.2.2.2.2.2.2.2.2.2.2.2.2.2.2.2.2.2.2.2.2.2.2.2.2.1
theorem d_MD_pairs_39 : decode prog_12_method_149_code 39 = .ok (.iload 4, 2) := F_MD_pairs_0.2.2.2.2.2.2.2.2.2.2.2.2.2.2.2.2.2.2.2.2.2.2.2.2.2.2.1
theorem d_MD_pairs_41 : decode prog_12_method_149_code 41 = .ok (.i2l, 1) := F_MD_pairs_0.2.2.2.2.2.2.2.2.2.2.2.2.2.2.2.2.2.2.2.2.2.2.2.2.2.2.2.1
theorem d_MD_pairs_42 : decode prog_12_method_149_code 42 = .ok (.aload_n 0, 1) := F_MD_pairs_0.2.2.2.2.2.2.2.2.2.2.2.2.2.2.2.2.2.2.2.2.2.2.2.2.2.2.2.2.1
theorem d_MD_pairs_43 : decode prog_12_method_149_code 43 = .ok (.getfield 21, 3) := F_MD_pairs_0.2.2.2.2.2.2.2.2.2.2.2.2.2.2.2.2.2.2.2.2.2.2.2.2.2.2.2.2.2.1
theorem d_MD_pairs_46 : decode prog_12_method_149_code 46 = .ok (.sipush (168), 3) := F_MD_pairs_0.2.2.2.2.2.2.2.2.2.2.2.2.2.2.2.2.2.2.2.2.2.2.2.2.2.2.2.2.2.2.1
theorem d_MD_pairs_49 : decode prog_12_method_149_code 49 = .ok (.laload, 1) := F_MD_pairs_0.2.2.2.2.2.2.2.2.2.2.2.2.2.2.2.2.2.2.2.2.2.2.2.2.2.2.2.2.2.2.2.1
theorem F_MD_pairs_50 : Jvm.Free.DS.Facts prog_12_method_149_code 50 [(.lcmp, 1), (.ifCond .ge (28), 3), (.iload_n 2, 1), (.aload_n 0, 1), (.iload_n 3, 1), (.iload 4, 2), (.iload_n 1, 1), (.invokevirtual 467, 3), (.ifCond .eq (7), 3), (.iconst 1, 1), (.goto (4), 3), (.iconst 0, 1), (.iadd, 1), (.istore_n 2, 1), (.iinc 4 (1), 3), (.goto (-37), 3), (.iinc 3 (1), 3), (.goto (-62), 3), (.iload_n 2, 1), (.ireturn, 1)] := Jvm.Free.DS.facts 50 _ (by decide +kernel) (by decide +kernel)
theorem d_MD_pairs_50 : decode prog_12_method_149_code 50 = .ok (.lcmp, 1) := F_MD_pairs_50.1
theorem d_MD_pairs_51 : decode prog_12_method_149_code 51 = .ok (.ifCond .ge (28), 3) := F_MD_pairs_50.2.1
theorem d_MD_pairs_54 : decode prog_12_method_149_code 54 = .ok (.iload_n 2, 1) := F_MD_pairs_50.2.2.1
theorem d_MD_pairs_55 : decode prog_12_method_149_code 55 = .ok (.aload_n 0, 1) := F_MD_pairs_50.2.2.2.1
theorem d_MD_pairs_56 : decode prog_12_method_149_code 56 = .ok (.iload_n 3, 1) := F_MD_pairs_50.2.2.2.2.1
theorem d_MD_pairs_57 : decode prog_12_method_149_code 57 = .ok (.iload 4, 2) := F_MD_pairs_50.2.2.2.2.2.1
theorem d_MD_pairs_59 : decode prog_12_method_149_code 59 = .ok (.iload_n 1, 1) := F_MD_pairs_50.2.2.2.2.2.2.1
theorem d_MD_pairs_60 : decode prog_12_method_149_code 60 = .ok (.invokevirtual 467, 3) := F_MD_pairs_50.2.2.2.2.2.2.2.1
theorem d_MD_pairs_63 : decode prog_12_method_149_code 63 = .ok (.ifCond .eq (7), 3) := F_MD_pairs_50.2.2.2.2.2.2.2.2.1
theorem d_MD_pairs_66 : decode prog_12_method_149_code 66 = .ok (.iconst 1, 1) := F_MD_pairs_50.2.2.2.2.2.2.2.2.2.1
theorem d_MD_pairs_67 : decode prog_12_method_149_code 67 = .ok (.goto (4), 3) := F_MD_pairs_50.2.2.2.2.2.2.2.2.2.2.1
theorem d_MD_pairs_70 : decode prog_12_method_149_code 70 = .ok (.iconst 0, 1) := F_MD_pairs_50.2.2.2.2.2.2.2.2.2.2.2.1
theorem d_MD_pairs_71 : decode prog_12_method_149_code 71 = .ok (.iadd, 1) := F_MD_pairs_50.2.2.2.2.2.2.2.2.2.2.2.2.1
theorem d_MD_pairs_72 : decode prog_12_method_149_code 72 = .ok (.istore_n 2, 1) := F_MD_pairs_50.2.2.2.2.2.2.2.2.2.2.2.2.2.1
theorem d_MD_pairs_73 : decode prog_12_method_149_code 73 = .ok (.iinc 4 (1), 3) := F_MD_pairs_50.2.2.2.2.2.2.2.2.2.2.2.2.2.2.1
theorem d_MD_pairs_76 : decode prog_12_method_149_code 76 = .ok (.goto (-37), 3) := F_MD_pairs_50.2.2.2.2.2.2.2.2.2.2.2.2.2.2.2.1
theorem d_MD_pairs_79 : decode prog_12_method_149_code 79 = .ok (.iinc 3 (1), 3) := F_MD_pairs_50.2.2.2.2.2.2.2.2.2.2.2.2.2.2.2.2.1
theorem d_MD_pairs_82 : decode prog_12_method_149_code 82 = .ok (.goto (-62), 3) := F_MD_pairs_50.2.2.2.2.2.2.2.2.2.2.2.2.2.2.2.2.2.1
theorem d_MD_pairs_85 : decode prog_12_method_149_code 85 = .ok (.iload_n 2, 1) := F_MD_pairs_50.2.2.2.2.2.2.2.2.2.2.2.2.2.2.2.2.2.2.1
theorem d_MD_pairs_86 : decode prog_12_method_149_code 86 = .ok (.ireturn, 1) := F_MD_pairs_50.2.2.2.2.2.2.2.2.2.2.2.2.2.2.2.2.2.2.2.1
theorem F_MD_isPair_0 : Jvm.Free.DS.Facts prog_12_method_150_code 0 [(.iload_n 3, 1), (.ifCond .ne (19), 3), (.aload_n 0, 1), (.iload_n 1, 1), (.iload_n 2, 1), (.invokevirtual 470, 3), (.iconst 1, 1), (.if_icmp .ne (7), 3), (.iconst 1, 1), (.goto (4), 3), (.iconst 0, 1), (.ireturn, 1), (.iload_n 3, 1), (.iconst 2, 1), (.if_icmp .ne (19), 3), (.aload_n 0, 1), (.iload_n 1, 1), (.iload_n 2, 1), (.invokevirtual 474, 3), (.iconst 1, 1), (.if_icmp .ne (7), 3), (.iconst 1, 1), (.goto (4), 3), (.iconst 0, 1), (.ireturn, 1), (.aload_n 0, 1), (.iload_n 1, 1), (.iload_n 2, 1), (.invokevirtual 277, 3), (.aload_n 0, 1), (.invokevirtual 326, 3), (.ireturn, 1)] := Jvm.Free.DS.facts 0 _ (by decide +kernel) (by decide +kernel)
theorem d_MD_isPair_0 : decode prog_12_method_150_code 0 = .ok (.iload_n 3, 1) := F_MD_isPair_0.1
theorem d_MD_isPair_1 : decode prog_12_method_150_code 1 = .ok (.ifCond .ne (19), 3) := F_MD_isPair_0.2.1
theorem d_MD_isPair_4 : decode prog_12_method_150_code 4 = .ok (.aload_n 0, 1) := F_MD_isPair_0.2.2.1
theorem d_MD_isPair_5 : decode prog_12_method_150_code 5 = .ok (.iload_n 1, 1) := F_MD_isPair_0.2.2.2.1
theorem d_MD_isPair_6 : decode prog_12_method_150_code 6 = .ok (.iload_n 2, 1) := F_MD_isPair_0.2.2.2.2.1
theorem d_MD_isPair_7 : decode prog_12_method_150_code 7 = .ok (.invokevirtual 470, 3) := F_MD_isPair_0.2.2.2.2.2.1
theorem d_MD_isPair_10 : decode prog_12_method_150_code 10 = .ok (.iconst 1, 1) := F_MD_isPair_0.2.2.2.2.2.2.1
theorem d_MD_isPair_11 : decode prog_12_method_150_code 11 = .ok (.if_icmp .ne (7), 3) := F_MD_isPair_0.2.2.2.2.2.2.2.1
theorem d_MD_isPair_14 : decode prog_12_method_150_code 14 = .ok (.iconst 1, 1) := F_MD_isPair_0.2.2.2.2.2.2.2.2.1
theorem d_MD_isPair_15 : decode prog_12_method_150_code 15 = .ok (.goto (4), 3) := F_MD_isPair_0.2.2.2.2.2.2.2.2.2.1
theorem d_MD_isPair_18 : decode prog_12_method_150_code 18 = .ok (.iconst 0, 1) := F_MD_isPair_0.2.2.2.2.2.2.2.2.2.2.1
theorem d_MD_isPair_19 : decode prog_12_method_150_code 19 = .ok (.ireturn, 1) := F_MD_isPair_0.2.2.2.2.2.2.2.2.2.2.2.1
theorem d_MD_isPair_20 : decode prog_12_method_150_code 20 = .ok (.iload_n 3, 1) := F_MD_isPair_0.2.2.2.2.2.2.2.2.2.2.2.2.1
theorem d_MD_isPair_21 : decode prog_12_method_150_code 21 = .ok (.iconst 2, 1) := F_MD_isPair_0.2.2.2.2.2.2.2.2.2.2.2.2.2.1
theorem d_MD_isPair_22 : decode prog_12_method_150_code 22 = .ok (.if_icmp .ne (19), 3) := F_MD_isPair_0.2.2.2.2.2.2.2.2.2.2.2.2.2.2.1
theorem d_MD_isPair_25 : decode prog_12_method_150_code 25 = .ok (.aload_n 0, 1) := F_MD_isPair_0.2.2.2.2.2.2.2.2.2.2.2.2.2.2.2.1
theorem d_MD_isPair_26 : decode prog_12_method_150_code 26 = .ok (.iload_n 1, 1) := F_MD_isPair_0.2.2.2.2.2.2.2.2.2.2.2.2.2.2.2.2.1
theorem d_MD_isPair_27 : decode prog_12_method_150_code 27 = .ok (.iload_n 2, 1) := F_MD_isPair_0.2.2.2.2.2.2.2.2.2.2.2.2.2.2.2.2.2.1
theorem d_MD_isPair_28 : decode prog_12_method_150_code 28 = .ok (.invokevirtual 474, 3) := F_MD_isPair_0.2.2.2.2.2.2.2.2.2.2.2.2.2.2.2.2.2.2.1
theorem d_MD_isPair_31 : decode prog_12_method_150_code 31 = .ok (.iconst 1, 1) := F_MD_isPair_0.2.2.2.2.2.2.2.2.2.2.2.2.2.2.2.2.2.2.2.1
theorem d_MD_isPair_32 : decode prog_12_method_150_code 32 = .ok (.if_icmp .ne (7), 3) := F_MD_isPair_0.2.2.2.2.2.2.2.2.2.2.2.2.2.2.2.2.2.2.2.2.1
theorem d_MD_isPair_35 : decode prog_12_method_150_code 35 = .ok (.iconst 1, 1) := F_MD_isPair_0.2.2.2.2.2.2.2.2.2.2.2.2.2.2.2.2.2.2.2.2.2.1
theorem d_MD_isPair_36 : decode prog_12_method_150_code 36 = .ok (.goto (4), 3) := F_MD_isPair_0.2.2.2.2.2.2.2.2.2.2.2.2.2.2.2.2.2.2.2.2.2.2.1
theorem d_MD_isPair_39 : decode prog_12_method_150_code 39 = .ok (.iconst 0, 1) := F_MD_isPair_0.2.2.2.2.2.2.2.2.2.2.2.2.2.2.2.2.2.2.2.2.2.2.2.1
theorem d_MD_isPair_40 : decode prog_12_method_150_code 40 = .ok (.ireturn, 1) := F_MD_isPair_0.2.2.2.2.2.2.2.2.2.2.2.2.2.2.2.2.2.2.2.2.2.2.2.2.1
theorem d_MD_isPair_41 : decode prog_12_method_150_code 41 = .ok (.aload_n 0, 1) := F_MD_isPair_0.2.2.2.2.2.2.2.2.2.2.2.2.2.2.2.2.2.2.2.2.2.2.2.2.2.1
theorem d_MD_isPair_42 : decode prog_12_method_150_code 42 = .ok (.iload_n 1, 1) := F_MD_isPair_0.2.2.2.2.2.2.2.2.2.2.2.2.2.2.2.2.2.2.2.2.2.2.2.2.2.2.1
theorem d_MD_isPair_43 : decode prog_12_method_150_code 43 = .ok (.iload_n 2, 1) := F_MD_isPair_0.2.2.2.2.2.2.2.2.2.2.2.2.2.2.2.2.2.2.2.2.2.2.2.2.2.2.2.1
theorem d_MD_isPair_44 : decode prog_12_method_150_code 44 = .ok (.invokevirtual 277, 3) := F_MD_isPair_0.2.2.2.2.2.2.2.2.2.2.2.2.2.2.2.2.2.2.2.2.2.2.2.2.2.2.2.2.1
theorem d_MD_isPair_47 : decode prog_12_method_150_code 47 = .ok (.aload_n 0, 1) := F_MD_isPair_0.2.2.2.2.2.2.2.2.2.2.2.2.2.2.2.2.2.2.2.2.2.2.2.2.2.2.2.2.2.1
theorem d_MD_isPair_48 : decode prog_12_method_150_code 48 = .ok (.invokevirtual 326, 3) := F_MD_isPair_0.2.2.2.2.2.2.2.2.2.2.2.2.2.2.2.2.2.2.2.2.2.2.2.2.2.2.2.2.2.2.1
theorem d_MD_isPair_51 : decode prog_12_method_150_code 51 = .ok (.ireturn, 1) := F_MD_isPair_0.2.2.2.2.2.2.2.2.2.2.2.2.2.2.2.2.2.2.2.2.2.2.2.2.2.2.2.2.2.2.2.1
theorem F_MD_cornerBy_0 : Jvm.Free.DS.Facts prog_12_method_152_code 0 [(.aload_n 0, 1), (.iconst 0, 1), (.putfield 74, 3), (.aload_n 0, 1), (.iload_n 1, 1), (.invokevirtual 241, 3), (.ifCond .eq (28), 3), (.aload_n 0, 1), (.iload_n 2, 1), (.invokevirtual 238, 3), (.ifCond .eq (20), 3), (.iload_n 3, 1), (.ifCond .lt (16), 3), (.iload_n 3, 1), (.iconst 3, 1), (.if_icmp .gt (11), 3), (.iload 4, 2), (.invokestatic 244, 3), (.ifCond .ne (7), 3), (.ldc2_w 307, 3), (.lreturn, 1), (.aload_n 0, 1), (.iload_n 1, 1), (.iload_n 2, 1), (.iload_n 3, 1), (.invokevirtual 477, 3), (.aload_n 0, 1), (.getfield 50, 3), (.iload 4, 2), (.laload, 1), (.lreturn, 1)] := Jvm.Free.DS.facts 0 _ (by decide +kernel) (by decide +kernel)
theorem d_MD_cornerBy_0 : decode prog_12_method_152_code 0 = .ok (.aload_n 0, 1) := F_MD_cornerBy_0.1
theorem d_MD_cornerBy_1 : decode prog_12_method_152_code 1 = .ok (.iconst 0, 1) := F_MD_cornerBy_0.2.1
theorem d_MD_cornerBy_2 : decode prog_12_method_152_code 2 = .ok (.putfield 74, 3) := F_MD_cornerBy_0.2.2.1
theorem d_MD_cornerBy_5 : decode prog_12_method_152_code 5 = .ok (.aload_n 0, 1) := F_MD_cornerBy_0.2.2.2.1
theorem d_MD_cornerBy_6 : decode prog_12_method_152_code 6 = .ok (.iload_n 1, 1) := F_MD_cornerBy_0.2.2.2.2.1
theorem d_MD_cornerBy_7 : decode prog_12_method_152_code 7 = .ok (.invokevirtual 241, 3) := F_MD_cornerBy_0.2.2.2.2.2.1
theorem d_MD_cornerBy_10 : decode prog_12_method_152_code 10 = .ok (.ifCond .eq (28), 3) := F_MD_cornerBy_0.2.2.2.2.2.2.1
theorem d_MD_cornerBy_13 : decode prog_12_method_152_code 13 = .ok (.aload_n 0, 1) := F_MD_cornerBy_0.2.2.2.2.2.2.2.1
theorem d_MD_cornerBy_14 : decode prog_12_method_152_code 14 = .ok (.iload_n 2, 1) := F_MD_cornerBy_0.2.2.2.2.2.2.2.2.1
theorem d_MD_cornerBy_15 : decode prog_12_method_152_code 15 = .ok (.invokevirtual 238, 3) := F_MD_cornerBy_0.2.2.2.2.2.2.2.2.2.1
theorem d_MD_cornerBy_18 : decode prog_12_method_152_code 18 = .ok (.ifCond .eq (20), 3) := F_MD_cornerBy_0.2.2.2.2.2.2.2.2.2.2.1
theorem d_MD_cornerBy_21 : decode prog_12_method_152_code 21 = .ok (.iload_n 3, 1) := F_MD_cornerBy_0.2.2.2.2.2.2.2.2.2.2.2.1
theorem d_MD_cornerBy_22 : decode prog_12_method_152_code 22 = .ok (.ifCond .lt (16), 3) := F_MD_cornerBy_0.2.2.2.2.2.2.2.2.2.2.2.2.1
theorem d_MD_cornerBy_25 : decode prog_12_method_152_code 25 = .ok (.iload_n 3, 1) := F_MD_cornerBy_0.2.2.2.2.2.2.2.2.2.2.2.2.2.1
theorem d_MD_cornerBy_26 : decode prog_12_method_152_code 26 = .ok (.iconst 3, 1) := F_MD_cornerBy_0.2.2.2.2.2.2.2.2.2.2.2.2.2.2.1
theorem d_MD_cornerBy_27 : decode prog_12_method_152_code 27 = .ok (.if_icmp .gt (11), 3) := F_MD_cornerBy_0.2.2.2.2.2.2.2.2.2.2.2.2.2.2.2.1
theorem d_MD_cornerBy_30 : decode prog_12_method_152_code 30 = .ok (.iload 4, 2) := F_MD_cornerBy_0.2.2.2.2.2.2.2.2.2.2.2.2.2.2.2.2.1
theorem d_MD_cornerBy_32 : decode prog_12_method_152_code 32 = .ok (.invokestatic 244, 3) := F_MD_cornerBy_0.2.2.2.2.2.2.2.2.2.2.2.2.2.2.2.2.2.1
theorem d_MD_cornerBy_35 : decode prog_12_method_152_code 35 = .ok (.ifCond .ne (7), 3) := F_MD_cornerBy_0.2.2.2.2.2.2.2.2.2.2.2.2.2.2.2.2.2.2.1
theorem d_MD_cornerBy_38 : decode prog_12_method_152_code 38 = .ok (.ldc2_w 307, 3) := F_MD_cornerBy_0.2.2.2.2.2.2.2.2.2.2.2.2.2.2.2.2.2.2.2.1
theorem d_MD_cornerBy_41 : decode prog_12_method_152_code 41 = .ok (.lreturn, 1) := F_MD_cornerBy_0.2.2.2.2.2.2.2.2.2.2.2.2.2.2.2.2.2.2.2.2.1
theorem d_MD_cornerBy_42 : decode prog_12_method_152_code 42 = .ok (.aload_n 0, 1) := F_MD_cornerBy_0.2.2.2.2.2.2.2.2.2.2.2.2.2.2.2.2.2.2.2.2.2.1
theorem d_MD_cornerBy_43 : decode prog_12_method_152_code 43 = .ok (.iload_n 1, 1) := F_MD_cornerBy_0.2.2.2.2.2.2.2.2.2.2.2.2.2.2.2.2.2.2.2.2.2.2.1
theorem d_MD_cornerBy_44 : decode prog_12_method_152_code 44 = .ok (.iload_n 2, 1) := F_MD_cornerBy_0.2.2.2.2.2.2.2.2.2.2.2.2.2.2.2.2.2.2.2.2.2.2.2.1
theorem d_MD_cornerBy_45 : decode prog_12_method_152_code 45 = .ok (.iload_n 3, 1) := F_MD_cornerBy_0.2.2.2.2.2.2.2.2.2.2.2.2.2.2.2.2.2.2.2.2.2.2.2.2.1
theorem d_MD_cornerBy_46 : decode prog_12_method_152_code 46 = .ok (.invokevirtual 477, 3) := F_MD_cornerBy_0.2.2.2.2.2.2.2.2.2.2.2.2.2.2.2.2.2.2.2.2.2.2.2.2.2.1
theorem d_MD_cornerBy_49 : decode prog_12_method_152_code 49 = .ok (.aload_n 0, 1) := F_MD_cornerBy_0.2.2.2.2.2.2.2.2.2.2.2.2.2.2.2.2.2.2.2.2.2.2.2.2.2.2.1
theorem d_MD_cornerBy_50 : decode prog_12_method_152_code 50 = .ok (.getfield 50, 3) := F_MD_cornerBy_0.2.2.2.2.2.2.2.2.2.2.2.2.2.2.2.2.2.2.2.2.2.2.2.2.2.2.2.1
theorem d_MD_cornerBy_53 : decode prog_12_method_152_code 53 = .ok (.iload 4, 2) := F_MD_cornerBy_0.2.2.2.2.2.2.2.2.2.2.2.2.2.2.2.2.2.2.2.2.2.2.2.2.2.2.2.2.1
theorem d_MD_cornerBy_55 : decode prog_12_method_152_code 55 = .ok (.laload, 1) := F_MD_cornerBy_0.2.2.2.2.2.2.2.2.2.2.2.2.2.2.2.2.2.2.2.2.2.2.2.2.2.2.2.2.2.1
theorem d_MD_cornerBy_56 : decode prog_12_method_152_code 56 = .ok (.lreturn, 1) := F_MD_cornerBy_0.2.2.2.2.2.2.2.2.2.2.2.2.2.2.2.2.2.2.2.2.2.2.2.2.2.2.2.2.2.2.1
theorem F_MD_laysCorner_0 : Jvm.Free.DS.Facts prog_12_method_151_code 0 [(.aload_n 0, 1), (.aload_n 0, 1), (.getfield 44, 3), (.iload_n 1, 1), (.invokevirtual 274, 3), (.aload_n 0, 1), (.aload_n 0, 1), (.getfield 44, 3), (.aload_n 0, 1), (.getfield 15, 3), (.bipush (8), 2), (.iload_n 2, 1), (.imul, 1), (.iconst 2, 1), (.iload_n 3, 1), (.imul, 1), (.iadd, 1), (.iaload, 1), (.i2l, 1), (.aload_n 0, 1), (.getfield 15, 3), (.bipush (8), 2), (.iload_n 2, 1), (.imul, 1), (.iconst 2, 1), (.iload_n 3, 1), (.imul, 1), (.iadd, 1), (.iconst 1, 1), (.iadd, 1), (.iaload, 1), (.i2l, 1)] := Jvm.Free.DS.facts 0 _ (by decide +kernel) (by decide +kernel)
theorem d_MD_laysCorner_0 : decode prog_12_method_151_code 0 = .ok (.aload_n 0, 1) := F_MD_laysCorner_0.1
theorem d_MD_laysCorner_1 : decode prog_12_method_151_code 1 = .ok (.aload_n 0, 1) := F_MD_laysCorner_0.2.1
theorem d_MD_laysCorner_2 : decode prog_12_method_151_code 2 = .ok (.getfield 44, 3) := F_MD_laysCorner_0.2.2.1
theorem d_MD_laysCorner_5 : decode prog_12_method_151_code 5 = .ok (.iload_n 1, 1) := F_MD_laysCorner_0.2.2.2.1
theorem d_MD_laysCorner_6 : decode prog_12_method_151_code 6 = .ok (.invokevirtual 274, 3) := F_MD_laysCorner_0.2.2.2.2.1
theorem d_MD_laysCorner_9 : decode prog_12_method_151_code 9 = .ok (.aload_n 0, 1) := F_MD_laysCorner_0.2.2.2.2.2.1
theorem d_MD_laysCorner_10 : decode prog_12_method_151_code 10 = .ok (.aload_n 0, 1) := F_MD_laysCorner_0.2.2.2.2.2.2.1
theorem d_MD_laysCorner_11 : decode prog_12_method_151_code 11 = .ok (.getfield 44, 3) := F_MD_laysCorner_0.2.2.2.2.2.2.2.1
theorem d_MD_laysCorner_14 : decode prog_12_method_151_code 14 = .ok (.aload_n 0, 1) := F_MD_laysCorner_0.2.2.2.2.2.2.2.2.1
theorem d_MD_laysCorner_15 : decode prog_12_method_151_code 15 = .ok (.getfield 15, 3) := F_MD_laysCorner_0.2.2.2.2.2.2.2.2.2.1
theorem d_MD_laysCorner_18 : decode prog_12_method_151_code 18 = .ok (.bipush (8), 2) := F_MD_laysCorner_0.2.2.2.2.2.2.2.2.2.2.1
theorem d_MD_laysCorner_20 : decode prog_12_method_151_code 20 = .ok (.iload_n 2, 1) := F_MD_laysCorner_0.2.2.2.2.2.2.2.2.2.2.2.1
theorem d_MD_laysCorner_21 : decode prog_12_method_151_code 21 = .ok (.imul, 1) := F_MD_laysCorner_0.2.2.2.2.2.2.2.2.2.2.2.2.1
theorem d_MD_laysCorner_22 : decode prog_12_method_151_code 22 = .ok (.iconst 2, 1) := F_MD_laysCorner_0.2.2.2.2.2.2.2.2.2.2.2.2.2.1
theorem d_MD_laysCorner_23 : decode prog_12_method_151_code 23 = .ok (.iload_n 3, 1) := F_MD_laysCorner_0.2.2.2.2.2.2.2.2.2.2.2.2.2.2.1
theorem d_MD_laysCorner_24 : decode prog_12_method_151_code 24 = .ok (.imul, 1) := F_MD_laysCorner_0.2.2.2.2.2.2.2.2.2.2.2.2.2.2.2.1
theorem d_MD_laysCorner_25 : decode prog_12_method_151_code 25 = .ok (.iadd, 1) := F_MD_laysCorner_0.2.2.2.2.2.2.2.2.2.2.2.2.2.2.2.2.1
theorem d_MD_laysCorner_26 : decode prog_12_method_151_code 26 = .ok (.iaload, 1) := F_MD_laysCorner_0.2.2.2.2.2.2.2.2.2.2.2.2.2.2.2.2.2.1
theorem d_MD_laysCorner_27 : decode prog_12_method_151_code 27 = .ok (.i2l, 1) := F_MD_laysCorner_0.2.2.2.2.2.2.2.2.2.2.2.2.2.2.2.2.2.2.1
theorem d_MD_laysCorner_28 : decode prog_12_method_151_code 28 = .ok (.aload_n 0, 1) := F_MD_laysCorner_0.2.2.2.2.2.2.2.2.2.2.2.2.2.2.2.2.2.2.2.1
theorem d_MD_laysCorner_29 : decode prog_12_method_151_code 29 = .ok (.getfield 15, 3) := F_MD_laysCorner_0.2.2.2.2.2.2.2.2.2.2.2.2.2.2.2.2.2.2.2.2.1
theorem d_MD_laysCorner_32 : decode prog_12_method_151_code 32 = .ok (.bipush (8), 2) := F_MD_laysCorner_0.2.2.2.2.2.2.2.2.2.2.2.2.2.2.2.2.2.2.2.2.2.1
theorem d_MD_laysCorner_34 : decode prog_12_method_151_code 34 = .ok (.iload_n 2, 1) := F_MD_laysCorner_0.2.2.2.2.2.2.2.2.2.2.2.2.2.2.2.2.2.2.2.2.2.2.1
theorem d_MD_laysCorner_35 : decode prog_12_method_151_code 35 = .ok (.imul, 1) := F_MD_laysCorner_0.2.2.2.2.2.2.2.2.2.2.2.2.2.2.2.2.2.2.2.2.2.2.2.1
theorem d_MD_laysCorner_36 : decode prog_12_method_151_code 36 = .ok (.iconst 2, 1) := F_MD_laysCorner_0.2.2.2.2.2.2.2.2.2.2.2.2.2.2.2.2.2.2.2.2.2.2.2.2.1
theorem d_MD_laysCorner_37 : decode prog_12_method_151_code 37 = .ok (.iload_n 3, 1) := F_MD_laysCorner_0.2.2.2.2.2.2.2.2.2.2.2.2.2.2.2.2.2.2.2.2.2.2.2.2.2.1
theorem d_MD_laysCorner_38 : decode prog_12_method_151_code 38 = .ok (.imul, 1) := F_MD_laysCorner_0.2.2.2.2.2.2.2.2.2.2.2.2.2.2.2.2.2.2.2.2.2.2.2.2.2.2.1
theorem d_MD_laysCorner_39 : decode prog_12_method_151_code 39 = .ok (.iadd, 1) := F_MD_laysCorner_0.2.2.2.2.2.2.2.2.2.2.2.2.2.2.2.2.2.2.2.2.2.2.2.2.2.2.2.1
theorem d_MD_laysCorner_40 : decode prog_12_method_151_code 40 = .ok (.iconst 1, 1) := F_MD_laysCorner_0.2.2.2.2.2.2.2.2.2.2.2.2.2.2.2.2.2.2.2.2.2.2.2.2.2.2.2.2.1
theorem d_MD_laysCorner_41 : decode prog_12_method_151_code 41 = .ok (.iadd, 1) := F_MD_laysCorner_0.2.2.2.2.2.2.2.2.2.2.2.2.2.2.2.2.2.2.2.2.2.2.2.2.2.2.2.2.2.1
theorem d_MD_laysCorner_42 : decode prog_12_method_151_code 42 = .ok (.iaload, 1) := F_MD_laysCorner_0.2.2.2.2.2.2.2.2.2.2.2.2.2.2.2.2.2.2.2.2.2.2.2.2.2.2.2.2.2.2.1
theorem d_MD_laysCorner_43 : decode prog_12_method_151_code 43 = .ok (.i2l, 1) := F_MD_laysCorner_0.2.2.2.2.2.2.2.2.2.2.2.2.2.2.2.2.2.2.2.2.2.2.2.2.2.2.2.2.2.2.2.1
theorem F_MD_laysCorner_44 : Jvm.Free.DS.Facts prog_12_method_151_code 44 [(.lconst 1, 1), (.invokevirtual 294, 3), (.return_, 1)] := Jvm.Free.DS.facts 44 _ (by decide +kernel) (by decide +kernel)
theorem d_MD_laysCorner_44 : decode prog_12_method_151_code 44 = .ok (.lconst 1, 1) := F_MD_laysCorner_44.1
theorem d_MD_laysCorner_45 : decode prog_12_method_151_code 45 = .ok (.invokevirtual 294, 3) := F_MD_laysCorner_44.2.1
theorem d_MD_laysCorner_48 : decode prog_12_method_151_code 48 = .ok (.return_, 1) := F_MD_laysCorner_44.2.2.1
theorem F_MD_hits_0 : Jvm.Free.DS.Facts prog_12_method_154_code 0 [(.aload_n 0, 1), (.iconst 0, 1), (.putfield 74, 3), (.aload_n 0, 1), (.iload_n 1, 1), (.invokevirtual 241, 3), (.ifCond .eq (29), 3), (.aload_n 0, 1), (.iload_n 2, 1), (.invokevirtual 238, 3), (.ifCond .eq (21), 3), (.aload_n 0, 1), (.iload_n 3, 1), (.invokevirtual 238, 3), (.ifCond .eq (13), 3), (.aload_n 0, 1), (.iload_n 1, 1), (.iload_n 2, 1), (.iload_n 3, 1), (.invokevirtual 480, 3), (.goto (4), 3), (.iconst (-1), 1), (.ireturn, 1)] := Jvm.Free.DS.facts 0 _ (by decide +kernel) (by decide +kernel)
theorem d_MD_hits_0 : decode prog_12_method_154_code 0 = .ok (.aload_n 0, 1) := F_MD_hits_0.1
theorem d_MD_hits_1 : decode prog_12_method_154_code 1 = .ok (.iconst 0, 1) := F_MD_hits_0.2.1
theorem d_MD_hits_2 : decode prog_12_method_154_code 2 = .ok (.putfield 74, 3) := F_MD_hits_0.2.2.1
theorem d_MD_hits_5 : decode prog_12_method_154_code 5 = .ok (.aload_n 0, 1) := F_MD_hits_0.2.2.2.1
theorem d_MD_hits_6 : decode prog_12_method_154_code 6 = .ok (.iload_n 1, 1) := F_MD_hits_0.2.2.2.2.1
theorem d_MD_hits_7 : decode prog_12_method_154_code 7 = .ok (.invokevirtual 241, 3) := F_MD_hits_0.2.2.2.2.2.1
theorem d_MD_hits_10 : decode prog_12_method_154_code 10 = .ok (.ifCond .eq (29), 3) := F_MD_hits_0.2.2.2.2.2.2.1
theorem d_MD_hits_13 : decode prog_12_method_154_code 13 = .ok (.aload_n 0, 1) := F_MD_hits_0.2.2.2.2.2.2.2.1
theorem d_MD_hits_14 : decode prog_12_method_154_code 14 = .ok (.iload_n 2, 1) := F_MD_hits_0.2.2.2.2.2.2.2.2.1
theorem d_MD_hits_15 : decode prog_12_method_154_code 15 = .ok (.invokevirtual 238, 3) := F_MD_hits_0.2.2.2.2.2.2.2.2.2.1
theorem d_MD_hits_18 : decode prog_12_method_154_code 18 = .ok (.ifCond .eq (21), 3) := F_MD_hits_0.2.2.2.2.2.2.2.2.2.2.1
theorem d_MD_hits_21 : decode prog_12_method_154_code 21 = .ok (.aload_n 0, 1) := F_MD_hits_0.2.2.2.2.2.2.2.2.2.2.2.1
theorem d_MD_hits_22 : decode prog_12_method_154_code 22 = .ok (.iload_n 3, 1) := F_MD_hits_0.2.2.2.2.2.2.2.2.2.2.2.2.1
theorem d_MD_hits_23 : decode prog_12_method_154_code 23 = .ok (.invokevirtual 238, 3) := F_MD_hits_0.2.2.2.2.2.2.2.2.2.2.2.2.2.1
theorem d_MD_hits_26 : decode prog_12_method_154_code 26 = .ok (.ifCond .eq (13), 3) := F_MD_hits_0.2.2.2.2.2.2.2.2.2.2.2.2.2.2.1
theorem d_MD_hits_29 : decode prog_12_method_154_code 29 = .ok (.aload_n 0, 1) := F_MD_hits_0.2.2.2.2.2.2.2.2.2.2.2.2.2.2.2.1
theorem d_MD_hits_30 : decode prog_12_method_154_code 30 = .ok (.iload_n 1, 1) := F_MD_hits_0.2.2.2.2.2.2.2.2.2.2.2.2.2.2.2.2.1
theorem d_MD_hits_31 : decode prog_12_method_154_code 31 = .ok (.iload_n 2, 1) := F_MD_hits_0.2.2.2.2.2.2.2.2.2.2.2.2.2.2.2.2.2.1
theorem d_MD_hits_32 : decode prog_12_method_154_code 32 = .ok (.iload_n 3, 1) := F_MD_hits_0.2.2.2.2.2.2.2.2.2.2.2.2.2.2.2.2.2.2.1
theorem d_MD_hits_33 : decode prog_12_method_154_code 33 = .ok (.invokevirtual 480, 3) := F_MD_hits_0.2.2.2.2.2.2.2.2.2.2.2.2.2.2.2.2.2.2.2.1
theorem d_MD_hits_36 : decode prog_12_method_154_code 36 = .ok (.goto (4), 3) := F_MD_hits_0.2.2.2.2.2.2.2.2.2.2.2.2.2.2.2.2.2.2.2.2.1
theorem d_MD_hits_39 : decode prog_12_method_154_code 39 = .ok (.iconst (-1), 1) := F_MD_hits_0.2.2.2.2.2.2.2.2.2.2.2.2.2.2.2.2.2.2.2.2.2.1
theorem d_MD_hits_40 : decode prog_12_method_154_code 40 = .ok (.ireturn, 1) := F_MD_hits_0.2.2.2.2.2.2.2.2.2.2.2.2.2.2.2.2.2.2.2.2.2.2.1
theorem F_MD_hitsOf_0 : Jvm.Free.DS.Facts prog_12_method_153_code 0 [(.iconst 0, 1), (.istore 4, 2), (.iconst 0, 1), (.istore 5, 2), (.iload 5, 2), (.iconst 4, 1), (.if_icmp .ge (125), 3), (.aload_n 0, 1), (.iload_n 1, 1), (.iload_n 2, 1), (.iload 5, 2), (.invokevirtual 477, 3), (.iconst 0, 1), (.istore 6, 2), (.iconst 0, 1), (.istore 7, 2), (.iload 7, 2), (.iconst 4, 1), (.if_icmp .ge (84), 3), (.iload 6, 2), (.ifCond .ne (66), 3), (.aload_n 0, 1), (.getfield 50, 3), (.iconst 2, 1), (.laload, 1), (.lconst 1, 1), (.lcmp, 1), (.ifCond .ne (59), 3), (.aload_n 0, 1), (.getfield 50, 3), (.iconst 0, 1), (.laload, 1)] := Jvm.Free.DS.facts 0 _ (by decide +kernel) (by decide +kernel)
theorem d_MD_hitsOf_0 : decode prog_12_method_153_code 0 = .ok (.iconst 0, 1) := F_MD_hitsOf_0.1
theorem d_MD_hitsOf_1 : decode prog_12_method_153_code 1 = .ok (.istore 4, 2) := F_MD_hitsOf_0.2.1
theorem d_MD_hitsOf_3 : decode prog_12_method_153_code 3 = .ok (.iconst 0, 1) := F_MD_hitsOf_0.2.2.1
theorem d_MD_hitsOf_4 : decode prog_12_method_153_code 4 = .ok (.istore 5, 2) := F_MD_hitsOf_0.2.2.2.1
theorem d_MD_hitsOf_6 : decode prog_12_method_153_code 6 = .ok (.iload 5, 2) := F_MD_hitsOf_0.2.2.2.2.1
theorem d_MD_hitsOf_8 : decode prog_12_method_153_code 8 = .ok (.iconst 4, 1) := F_MD_hitsOf_0.2.2.2.2.2.1
theorem d_MD_hitsOf_9 : decode prog_12_method_153_code 9 = .ok (.if_icmp .ge (125), 3) := F_MD_hitsOf_0.2.2.2.2.2.2.1
theorem d_MD_hitsOf_12 : decode prog_12_method_153_code 12 = .ok (.aload_n 0, 1) := F_MD_hitsOf_0.2.2.2.2.2.2.2.1
theorem d_MD_hitsOf_13 : decode prog_12_method_153_code 13 = .ok (.iload_n 1, 1) := F_MD_hitsOf_0.2.2.2.2.2.2.2.2.1
theorem d_MD_hitsOf_14 : decode prog_12_method_153_code 14 = .ok (.iload_n 2, 1) := F_MD_hitsOf_0.2.2.2.2.2.2.2.2.2.1
theorem d_MD_hitsOf_15 : decode prog_12_method_153_code 15 = .ok (.iload 5, 2) := F_MD_hitsOf_0.2.2.2.2.2.2.2.2.2.2.1
theorem d_MD_hitsOf_17 : decode prog_12_method_153_code 17 = .ok (.invokevirtual 477, 3) := F_MD_hitsOf_0.2.2.2.2.2.2.2.2.2.2.2.1
theorem d_MD_hitsOf_20 : decode prog_12_method_153_code 20 = .ok (.iconst 0, 1) := F_MD_hitsOf_0.2.2.2.2.2.2.2.2.2.2.2.2.1
theorem d_MD_hitsOf_21 : decode prog_12_method_153_code 21 = .ok (.istore 6, 2) := F_MD_hitsOf_0.2.2.2.2.2.2.2.2.2.2.2.2.2.1
theorem d_MD_hitsOf_23 : decode prog_12_method_153_code 23 = .ok (.iconst 0, 1) := F_MD_hitsOf_0.2.2.2.2.2.2.2.2.2.2.2.2.2.2.1
theorem d_MD_hitsOf_24 : decode prog_12_method_153_code 24 = .ok (.istore 7, 2) := F_MD_hitsOf_0.2.2.2.2.2.2.2.2.2.2.2.2.2.2.2.1
theorem d_MD_hitsOf_26 : decode prog_12_method_153_code 26 = .ok (.iload 7, 2) := F_MD_hitsOf_0.2.2.2.2.2.2.2.2.2.2.2.2.2.2.2.2.1
theorem d_MD_hitsOf_28 : decode prog_12_method_153_code 28 = .ok (.iconst 4, 1) := F_MD_hitsOf_0.2.2.2.2.2.2.2.2.2.2.2.2.2.2.2.2.2.1
theorem d_MD_hitsOf_29 : decode prog_12_method_153_code 29 = .ok (.if_icmp .ge (84), 3) := F_MD_hitsOf_0.2.2.2.2.2.2.2.2.2.2.2.2.2.2.2.2.2.2.1
theorem d_MD_hitsOf_32 : decode prog_12_method_153_code 32 = .ok (.iload 6, 2) := F_MD_hitsOf_0.2.2.2.2.2.2.2.2.2.2.2.2.2.2.2.2.2.2.2.1
theorem d_MD_hitsOf_34 : decode prog_12_method_153_code 34 = .ok (.ifCond .ne (66), 3) := F_MD_hitsOf_0.2.2.2.2.2.2.2.2.2.2.2.2.2.2.2.2.2.2.2.2.1
theorem d_MD_hitsOf_37 : decode prog_12_method_153_code 37 = .ok (.aload_n 0, 1) := F_MD_hitsOf_0.2.2.2.2.2.2.2.2.2.2.2.2.2.2.2.2.2.2.2.2.2.1
theorem d_MD_hitsOf_38 : decode prog_12_method_153_code 38 = .ok (.getfield 50, 3) := F_MD_hitsOf_0.2.2.2.2.2.2.2.2.2.2.2.2.2.2.2.2.2.2.2.2.2.2.1
theorem d_MD_hitsOf_41 : decode prog_12_method_153_code 41 = .ok (.iconst 2, 1) := F_MD_hitsOf_0.2.2.2.2.2.2.2.2.2.2.2.2.2.2.2.2.2.2.2.2.2.2.2.1
theorem d_MD_hitsOf_42 : decode prog_12_method_153_code 42 = .ok (.laload, 1) := F_MD_hitsOf_0.2.2.2.2.2.2.2.2.2.2.2.2.2.2.2.2.2.2.2.2.2.2.2.2.1
theorem d_MD_hitsOf_43 : decode prog_12_method_153_code 43 = .ok (.lconst 1, 1) := F_MD_hitsOf_0.2.2.2.2.2.2.2.2.2.2.2.2.2.2.2.2.2.2.2.2.2.2.2.2.2.1
theorem d_MD_hitsOf_44 : decode prog_12_method_153_code 44 = .ok (.lcmp, 1) := F_MD_hitsOf_0.2.2.2.2.2.2.2.2.2.2.2.2.2.2.2.2.2.2.2.2.2.2.2.2.2.2.1
theorem d_MD_hitsOf_45 : decode prog_12_method_153_code 45 = .ok (.ifCond .ne (59), 3) := F_MD_hitsOf_0.2.2.2.2.2.2.2.2.2.2.2.2.2.2.2.2.2.2.2.2.2.2.2.2.2.2.2.1
theorem d_MD_hitsOf_48 : decode prog_12_method_153_code 48 = .ok (.aload_n 0, 1) := F_MD_hitsOf_0.2.2.2.2.2.2.2.2.2.2.2.2.2.2.2.2.2.2.2.2.2.2.2.2.2.2.2.2.1
theorem d_MD_hitsOf_49 : decode prog_12_method_153_code 49 = .ok (.getfield 50, 3) := F_MD_hitsOf_0.2.2.2.2.2.2.2.2.2.2.2.2.2.2.2.2.2.2.2.2.2.2.2.2.2.2.2.2.2.1
theorem d_MD_hitsOf_52 : decode prog_12_method_153_code 52 = .ok (.iconst 0, 1) := F_MD_hitsOf_0.2.2.2.2.2.2.2.2.2.2.2.2.2.2.2.2.2.2.2.2.2.2.2.2.2.2.2.2.2.2.1
theorem d_MD_hitsOf_53 : decode prog_12_method_153_code 53 = .ok (.laload, 1) := F_MD_hitsOf_0.2.2.2.2.2.2.2.2.2.2.2.2.2.2.2.2.2.2.2.2.2.2.2.2.2.2.2.2.2.2.2.1
theorem F_MD_hitsOf_54 : Jvm.Free.DS.Facts prog_12_method_153_code 54 [(.aload_n 0, 1), (.getfield 15, 3), (.bipush (8), 2), (.iload_n 3, 1), (.imul, 1), (.iconst 2, 1), (.iload 7, 2), (.imul, 1), (.iadd, 1), (.iaload, 1), (.i2l, 1), (.lcmp, 1), (.ifCond .ne (34), 3), (.aload_n 0, 1), (.getfield 50, 3), (.iconst 1, 1), (.laload, 1), (.aload_n 0, 1), (.getfield 15, 3), (.bipush (8), 2), (.iload_n 3, 1), (.imul, 1), (.iconst 2, 1), (.iload 7, 2), (.imul, 1), (.iadd, 1), (.iconst 1, 1), (.iadd, 1), (.iaload, 1), (.i2l, 1), (.lcmp, 1), (.ifCond .ne (7), 3)] := Jvm.Free.DS.facts 54 _ (by decide +kernel) (by decide +kernel)
theorem d_MD_hitsOf_54 : decode prog_12_method_153_code 54 = .ok (.aload_n 0, 1) := F_MD_hitsOf_54.1
theorem d_MD_hitsOf_55 : decode prog_12_method_153_code 55 = .ok (.getfield 15, 3) := F_MD_hitsOf_54.2.1
theorem d_MD_hitsOf_58 : decode prog_12_method_153_code 58 = .ok (.bipush (8), 2) := F_MD_hitsOf_54.2.2.1
theorem d_MD_hitsOf_60 : decode prog_12_method_153_code 60 = .ok (.iload_n 3, 1) := F_MD_hitsOf_54.2.2.2.1
theorem d_MD_hitsOf_61 : decode prog_12_method_153_code 61 = .ok (.imul, 1) := F_MD_hitsOf_54.2.2.2.2.1
theorem d_MD_hitsOf_62 : decode prog_12_method_153_code 62 = .ok (.iconst 2, 1) := F_MD_hitsOf_54.2.2.2.2.2.1
theorem d_MD_hitsOf_63 : decode prog_12_method_153_code 63 = .ok (.iload 7, 2) := F_MD_hitsOf_54.2.2.2.2.2.2.1
theorem d_MD_hitsOf_65 : decode prog_12_method_153_code 65 = .ok (.imul, 1) := F_MD_hitsOf_54.2.2.2.2.2.2.2.1
theorem d_MD_hitsOf_66 : decode prog_12_method_153_code 66 = .ok (.iadd, 1) := F_MD_hitsOf_54.2.2.2.2.2.2.2.2.1
theorem d_MD_hitsOf_67 : decode prog_12_method_153_code 67 = .ok (.iaload, 1) := F_MD_hitsOf_54.2.2.2.2.2.2.2.2.2.1
theorem d_MD_hitsOf_68 : decode prog_12_method_153_code 68 = .ok (.i2l, 1) := F_MD_hitsOf_54.2.2.2.2.2.2.2.2.2.2.1
theorem d_MD_hitsOf_69 : decode prog_12_method_153_code 69 = .ok (.lcmp, 1) := F_MD_hitsOf_54.2.2.2.2.2.2.2.2.2.2.2.1
theorem d_MD_hitsOf_70 : decode prog_12_method_153_code 70 = .ok (.ifCond .ne (34), 3) := F_MD_hitsOf_54.2.2.2.2.2.2.2.2.2.2.2.2.1
theorem d_MD_hitsOf_73 : decode prog_12_method_153_code 73 = .ok (.aload_n 0, 1) := F_MD_hitsOf_54.2.2.2.2.2.2.2.2.2.2.2.2.2.1
theorem d_MD_hitsOf_74 : decode prog_12_method_153_code 74 = .ok (.getfield 50, 3) := F_MD_hitsOf_54.2.2.2.2.2.2.2.2.2.2.2.2.2.2.1
theorem d_MD_hitsOf_77 : decode prog_12_method_153_code 77 = .ok (.iconst 1, 1) := F_MD_hitsOf_54.2.2.2.2.2.2.2.2.2.2.2.2.2.2.2.1
theorem d_MD_hitsOf_78 : decode prog_12_method_153_code 78 = .ok (.laload, 1) := F_MD_hitsOf_54.2.2.2.2.2.2.2.2.2.2.2.2.2.2.2.2.1
theorem d_MD_hitsOf_79 : decode prog_12_method_153_code 79 = .ok (.aload_n 0, 1) := F_MD_hitsOf_54.2.2.2.2.2.2.2.2.2.2.2.2.2.2.2.2.2.1
theorem d_MD_hitsOf_80 : decode prog_12_method_153_code 80 = .ok (.getfield 15, 3) := F_MD_hitsOf_54.2.2.2.2.2.2.2.2.2.2.2.2.2.2.2.2.2.2.1
theorem d_MD_hitsOf_83 : decode prog_12_method_153_code 83 = .ok (.bipush (8), 2) := F_MD_hitsOf_54.2.2.2.2.2.2.2.2.2.2.2.2.2.2.2.2.2.2.2.1
theorem d_MD_hitsOf_85 : decode prog_12_method_153_code 85 = .ok (.iload_n 3, 1) := F_MD_hitsOf_54.2.2.2.2.2.2.2.2.2.2.2.2.2.2.2.2.2.2.2.2.1
theorem d_MD_hitsOf_86 : decode prog_12_method_153_code 86 = .ok (.imul, 1) := F_MD_hitsOf_54.2.2.2.2.2.2.2.2.2.2.2.2.2.2.2.2.2.2.2.2.2.1
theorem d_MD_hitsOf_87 : decode prog_12_method_153_code 87 = .ok (.iconst 2, 1) := F_MD_hitsOf_54.2.2.2.2.2.2.2.2.2.2.2.2.2.2.2.2.2.2.2.2.2.2.1
theorem d_MD_hitsOf_88 : decode prog_12_method_153_code 88 = .ok (.iload 7, 2) := F_MD_hitsOf_54.2.2.2.2.2.2.2.2.2.2.2.2.2.2.2.2.2.2.2.2.2.2.2.1
theorem d_MD_hitsOf_90 : decode prog_12_method_153_code 90 = .ok (.imul, 1) := F_MD_hitsOf_54.2.2.2.2.2.2.2.2.2.2.2.2.2.2.2.2.2.2.2.2.2.2.2.2.1
theorem d_MD_hitsOf_91 : decode prog_12_method_153_code 91 = .ok (.iadd, 1) := F_MD_hitsOf_54.2.2.2.2.2.2.2.2.2.2.2.2.2.2.2.2.2.2.2.2.2.2.2.2.2.1
theorem d_MD_hitsOf_92 : decode prog_12_method_153_code 92 = .ok (.iconst 1, 1) := F_MD_hitsOf_54.2.2.2.2.2.2.2.2.2.2.2.2.2.2.2.2.2.2.2.2.2.2.2.2.2.2.1
theorem d_MD_hitsOf_93 : decode prog_12_method_153_code 93 = .ok (.iadd, 1) := F_MD_hitsOf_54.2.2.2.2.2.2.2.2.2.2.2.2.2.2.2.2.2.2.2.2.2.2.2.2.2.2.2.1
theorem d_MD_hitsOf_94 : decode prog_12_method_153_code 94 = .ok (.iaload, 1) := F_MD_hitsOf_54.2.2.2.2.2.2.2.2.2.2.2.2.2.2.2.2.2.2.2.2.2.2.2.2.2.2.2.2.1
theorem d_MD_hitsOf_95 : decode prog_12_method_153_code 95 = .ok (.i2l, 1) := F_MD_hitsOf_54.2.2.2.2.2.2.2.2.2.2.2.2.2.2.2.2.2.2.2.2.2.2.2.2.2.2.2.2.2.1
theorem d_MD_hitsOf_96 : decode prog_12_method_153_code 96 = .ok (.lcmp, 1) := F_MD_hitsOf_54.2.2.2.2.2.2.2.2.2.2.2.2.2.2.2.2.2.2.2.2.2.2.2.2.2.2.2.2.2.2.1
theorem d_MD_hitsOf_97 : decode prog_12_method_153_code 97 = .ok (.ifCond .ne (7), 3) := F_MD_hitsOf_54.2.2.2.2.2.2.2.2.2.2.2.2.2.2.2.2.2.2.2.2.2.2.2.2.2.2.2.2.2.2.2.1
theorem F_MD_hitsOf_100 : Jvm.Free.DS.Facts prog_12_method_153_code 100 [(.iconst 1, 1), (.goto (4), 3), (.iconst 0, 1), (.istore 6, 2), (.iinc 7 (1), 3), (.goto (-84), 3), (.iload 4, 2), (.iload 6, 2), (.ifCond .eq (7), 3), (.iconst 1, 1), (.goto (4), 3), (.iconst 0, 1), (.iadd, 1), (.istore 4, 2), (.iinc 5 (1), 3), (.goto (-125), 3), (.iload 4, 2), (.ireturn, 1)] := Jvm.Free.DS.facts 100 _ (by decide +kernel) (by decide +kernel)
theorem d_MD_hitsOf_100 : decode prog_12_method_153_code 100 = .ok (.iconst 1, 1) := F_MD_hitsOf_100.1
theorem d_MD_hitsOf_101 : decode prog_12_method_153_code 101 = .ok (.goto (4), 3) := F_MD_hitsOf_100.2.1
theorem d_MD_hitsOf_104 : decode prog_12_method_153_code 104 = .ok (.iconst 0, 1) := F_MD_hitsOf_100.2.2.1
theorem d_MD_hitsOf_105 : decode prog_12_method_153_code 105 = .ok (.istore 6, 2) := F_MD_hitsOf_100.2.2.2.1
theorem d_MD_hitsOf_107 : decode prog_12_method_153_code 107 = .ok (.iinc 7 (1), 3) := F_MD_hitsOf_100.2.2.2.2.1
theorem d_MD_hitsOf_110 : decode prog_12_method_153_code 110 = .ok (.goto (-84), 3) := F_MD_hitsOf_100.2.2.2.2.2.1
theorem d_MD_hitsOf_113 : decode prog_12_method_153_code 113 = .ok (.iload 4, 2) := F_MD_hitsOf_100.2.2.2.2.2.2.1
theorem d_MD_hitsOf_115 : decode prog_12_method_153_code 115 = .ok (.iload 6, 2) := F_MD_hitsOf_100.2.2.2.2.2.2.2.1
theorem d_MD_hitsOf_117 : decode prog_12_method_153_code 117 = .ok (.ifCond .eq (7), 3) := F_MD_hitsOf_100.2.2.2.2.2.2.2.2.1
theorem d_MD_hitsOf_120 : decode prog_12_method_153_code 120 = .ok (.iconst 1, 1) := F_MD_hitsOf_100.2.2.2.2.2.2.2.2.2.1
theorem d_MD_hitsOf_121 : decode prog_12_method_153_code 121 = .ok (.goto (4), 3) := F_MD_hitsOf_100.2.2.2.2.2.2.2.2.2.2.1
theorem d_MD_hitsOf_124 : decode prog_12_method_153_code 124 = .ok (.iconst 0, 1) := F_MD_hitsOf_100.2.2.2.2.2.2.2.2.2.2.2.1
theorem d_MD_hitsOf_125 : decode prog_12_method_153_code 125 = .ok (.iadd, 1) := F_MD_hitsOf_100.2.2.2.2.2.2.2.2.2.2.2.2.1
theorem d_MD_hitsOf_126 : decode prog_12_method_153_code 126 = .ok (.istore 4, 2) := F_MD_hitsOf_100.2.2.2.2.2.2.2.2.2.2.2.2.2.1
theorem d_MD_hitsOf_128 : decode prog_12_method_153_code 128 = .ok (.iinc 5 (1), 3) := F_MD_hitsOf_100.2.2.2.2.2.2.2.2.2.2.2.2.2.2.1
theorem d_MD_hitsOf_131 : decode prog_12_method_153_code 131 = .ok (.goto (-125), 3) := F_MD_hitsOf_100.2.2.2.2.2.2.2.2.2.2.2.2.2.2.2.1
theorem d_MD_hitsOf_134 : decode prog_12_method_153_code 134 = .ok (.iload 4, 2) := F_MD_hitsOf_100.2.2.2.2.2.2.2.2.2.2.2.2.2.2.2.2.1
theorem d_MD_hitsOf_136 : decode prog_12_method_153_code 136 = .ok (.ireturn, 1) := F_MD_hitsOf_100.2.2.2.2.2.2.2.2.2.2.2.2.2.2.2.2.2.1
theorem F_MD_goesTo_0 : Jvm.Free.DS.Facts prog_12_method_155_code 0 [(.aload_n 0, 1), (.iconst 0, 1), (.putfield 74, 3), (.aload_n 0, 1), (.iload_n 1, 1), (.invokevirtual 241, 3), (.ifCond .eq (11), 3), (.aload_n 0, 1), (.iload_n 2, 1), (.invokevirtual 238, 3), (.ifCond .ne (5), 3), (.iconst (-1), 1), (.ireturn, 1), (.iconst 0, 1), (.istore_n 3, 1), (.iconst 0, 1), (.istore 4, 2), (.iload 4, 2), (.aload_n 0, 1), (.getfield 204, 3), (.if_icmp .ge (29), 3), (.iload_n 3, 1), (.aload_n 0, 1), (.iload_n 1, 1), (.iload_n 2, 1), (.iload 4, 2), (.invokevirtual 480, 3), (.iconst 4, 1), (.if_icmp .ne (7), 3), (.iconst 1, 1), (.goto (4), 3), (.iconst 0, 1)] := Jvm.Free.DS.facts 0 _ (by decide +kernel) (by decide +kernel)
theorem d_MD_goesTo_0 : decode prog_12_method_155_code 0 = .ok (.aload_n 0, 1) := F_MD_goesTo_0.1
theorem d_MD_goesTo_1 : decode prog_12_method_155_code 1 = .ok (.iconst 0, 1) := F_MD_goesTo_0.2.1
theorem d_MD_goesTo_2 : decode prog_12_method_155_code 2 = .ok (.putfield 74, 3) := F_MD_goesTo_0.2.2.1
theorem d_MD_goesTo_5 : decode prog_12_method_155_code 5 = .ok (.aload_n 0, 1) := F_MD_goesTo_0.2.2.2.1
theorem d_MD_goesTo_6 : decode prog_12_method_155_code 6 = .ok (.iload_n 1, 1) := F_MD_goesTo_0.2.2.2.2.1
theorem d_MD_goesTo_7 : decode prog_12_method_155_code 7 = .ok (.invokevirtual 241, 3) := F_MD_goesTo_0.2.2.2.2.2.1
theorem d_MD_goesTo_10 : decode prog_12_method_155_code 10 = .ok (.ifCond .eq (11), 3) := F_MD_goesTo_0.2.2.2.2.2.2.1
theorem d_MD_goesTo_13 : decode prog_12_method_155_code 13 = .ok (.aload_n 0, 1) := F_MD_goesTo_0.2.2.2.2.2.2.2.1
theorem d_MD_goesTo_14 : decode prog_12_method_155_code 14 = .ok (.iload_n 2, 1) := F_MD_goesTo_0.2.2.2.2.2.2.2.2.1
theorem d_MD_goesTo_15 : decode prog_12_method_155_code 15 = .ok (.invokevirtual 238, 3) := F_MD_goesTo_0.2.2.2.2.2.2.2.2.2.1
theorem d_MD_goesTo_18 : decode prog_12_method_155_code 18 = .ok (.ifCond .ne (5), 3) := F_MD_goesTo_0.2.2.2.2.2.2.2.2.2.2.1
theorem d_MD_goesTo_21 : decode prog_12_method_155_code 21 = .ok (.iconst (-1), 1) := F_MD_goesTo_0.2.2.2.2.2.2.2.2.2.2.2.1
theorem d_MD_goesTo_22 : decode prog_12_method_155_code 22 = .ok (.ireturn, 1) := F_MD_goesTo_0.2.2.2.2.2.2.2.2.2.2.2.2.1
theorem d_MD_goesTo_23 : decode prog_12_method_155_code 23 = .ok (.iconst 0, 1) := F_MD_goesTo_0.2.2.2.2.2.2.2.2.2.2.2.2.2.1
theorem d_MD_goesTo_24 : decode prog_12_method_155_code 24 = .ok (.istore_n 3, 1) := F_MD_goesTo_0.2.2.2.2.2.2.2.2.2.2.2.2.2.2.1
theorem d_MD_goesTo_25 : decode prog_12_method_155_code 25 = .ok (.iconst 0, 1) := F_MD_goesTo_0.2.2.2.2.2.2.2.2.2.2.2.2.2.2.2.1
theorem d_MD_goesTo_26 : decode prog_12_method_155_code 26 = .ok (.istore 4, 2) := F_MD_goesTo_0.2.2.2.2.2.2.2.2.2.2.2.2.2.2.2.2.1
theorem d_MD_goesTo_28 : decode prog_12_method_155_code 28 = .ok (.iload 4, 2) := F_MD_goesTo_0.2.2.2.2.2.2.2.2.2.2.2.2.2.2.2.2.2.1
theorem d_MD_goesTo_30 : decode prog_12_method_155_code 30 = .ok (.aload_n 0, 1) := F_MD_goesTo_0.2.2.2.2.2.2.2.2.2.2.2.2.2.2.2.2.2.2.1
theorem d_MD_goesTo_31 : decode prog_12_method_155_code 31 = .ok (.getfield 204, 3) := F_MD_goesTo_0.2.2.2.2.2.2.2.2.2.2.2.2.2.2.2.2.2.2.2.1
theorem d_MD_goesTo_34 : decode prog_12_method_155_code 34 = .ok (.if_icmp .ge (29), 3) := F_MD_goesTo_0.2.2.2.2.2.2.2.2.2.2.2.2.2.2.2.2.2.2.2.2.1
theorem d_MD_goesTo_37 : decode prog_12_method_155_code 37 = .ok (.iload_n 3, 1) := F_MD_goesTo_0.2.2.2.2.2.2.2.2.2.2.2.2.2.2.2.2.2.2.2.2.2.1
theorem d_MD_goesTo_38 : decode prog_12_method_155_code 38 = .ok (.aload_n 0, 1) := F_MD_goesTo_0.2.2.2.2.2.2.2.2.2.2.2.2.2.2.2.2.2.2.2.2.2.2.1
theorem d_MD_goesTo_39 : decode prog_12_method_155_code 39 = .ok (.iload_n 1, 1) := F_MD_goesTo_0.2.2.2.2.2.2.2.2.2.2.2.2.2.2.2.2.2.2.2.2.2.2.2.1
theorem d_MD_goesTo_40 : decode prog_12_method_155_code 40 = .ok (.iload_n 2, 1) := F_MD_goesTo_0.2.2.2.2.2.2.2.2.2.2.2.2.2.2.2.2.2.2.2.2.2.2.2.2.1
theorem d_MD_goesTo_41 : decode prog_12_method_155_code 41 = .ok (.iload 4, 2) := F_MD_goesTo_0.2.2.2.2.2.2.2.2.2.2.2.2.2.2.2.2.2.2.2.2.2.2.2.2.2.1
theorem d_MD_goesTo_43 : decode prog_12_method_155_code 43 = .ok (.invokevirtual 480, 3) := F_MD_goesTo_0.2.2.2.2.2.2.2.2.2.2.2.2.2.2.2.2.2.2.2.2.2.2.2.2.2.2.1
theorem d_MD_goesTo_46 : decode prog_12_method_155_code 46 = .ok (.iconst 4, 1) := F_MD_goesTo_0.2.2.2.2.2.2.2.2.2.2.2.2.2.2.2.2.2.2.2.2.2.2.2.2.2.2.2.1
theorem d_MD_goesTo_47 : decode prog_12_method_155_code 47 = .ok (.if_icmp .ne (7), 3) := F_MD_goesTo_0.2.2.2.2.2.2.2.2.2.2.2.2.2.2.2.2.2.2.2.2.2.2.2.2.2.2.2.2.1
theorem d_MD_goesTo_50 : decode prog_12_method_155_code 50 = .ok (.iconst 1, 1) := F_MD_goesTo_0.2.2.2.2.2.2.2.2.2.2.2.2.2.2.2.2.2.2.2.2.2.2.2.2.2.2.2.2.2.1
theorem d_MD_goesTo_51 : decode prog_12_method_155_code 51 = .ok (.goto (4), 3) := F_MD_goesTo_0.2.2.2.2.2.2.2.2.2.2.2.2.2.2.2.2.2.2.2.2.2.2.2.2.2.2.2.2.2.2.1
theorem d_MD_goesTo_54 : decode prog_12_method_155_code 54 = .ok (.iconst 0, 1) := F_MD_goesTo_0.2.2.2.2.2.2.2.2.2.2.2.2.2.2.2.2.2.2.2.2.2.2.2.2.2.2.2.2.2.2.2.1
theorem F_MD_goesTo_55 : Jvm.Free.DS.Facts prog_12_method_155_code 55 [(.iadd, 1), (.istore_n 3, 1), (.iinc 4 (1), 3), (.goto (-32), 3), (.iload_n 3, 1), (.ireturn, 1)] := Jvm.Free.DS.facts 55 _ (by decide +kernel) (by decide +kernel)
theorem d_MD_goesTo_55 : decode prog_12_method_155_code 55 = .ok (.iadd, 1) := F_MD_goesTo_55.1
theorem d_MD_goesTo_56 : decode prog_12_method_155_code 56 = .ok (.istore_n 3, 1) := F_MD_goesTo_55.2.1
theorem d_MD_goesTo_57 : decode prog_12_method_155_code 57 = .ok (.iinc 4 (1), 3) := F_MD_goesTo_55.2.2.1
theorem d_MD_goesTo_60 : decode prog_12_method_155_code 60 = .ok (.goto (-32), 3) := F_MD_goesTo_55.2.2.2.1
theorem d_MD_goesTo_63 : decode prog_12_method_155_code 63 = .ok (.iload_n 3, 1) := F_MD_goesTo_55.2.2.2.2.1
theorem d_MD_goesTo_64 : decode prog_12_method_155_code 64 = .ok (.ireturn, 1) := F_MD_goesTo_55.2.2.2.2.2.1
theorem F_MD_farthest_0 : Jvm.Free.DS.Facts prog_12_method_156_code 0 [(.aload_n 0, 1), (.iconst 0, 1), (.putfield 74, 3), (.aload_n 0, 1), (.iload_n 1, 1), (.invokevirtual 241, 3), (.ifCond .ne (7), 3), (.ldc2_w 307, 3), (.lreturn, 1), (.lconst 0, 1), (.lstore_n 2, 1), (.iconst 0, 1), (.istore 4, 2), (.iload 4, 2), (.i2l, 1), (.aload_n 0, 1), (.getfield 21, 3), (.sipush (169), 3), (.laload, 1), (.lcmp, 1), (.ifCond .ge (46), 3), (.aload_n 0, 1), (.iload_n 1, 1), (.iload 4, 2), (.invokevirtual 298, 3), (.iconst 0, 1), (.istore 5, 2), (.iload 5, 2), (.iconst 3, 1), (.if_icmp .ge (24), 3), (.lload_n 2, 1), (.aload_n 0, 1)] := Jvm.Free.DS.facts 0 _ (by decide +kernel) (by decide +kernel)
theorem d_MD_farthest_0 : decode prog_12_method_156_code 0 = .ok (.aload_n 0, 1) := F_MD_farthest_0.1
theorem d_MD_farthest_1 : decode prog_12_method_156_code 1 = .ok (.iconst 0, 1) := F_MD_farthest_0.2.1
theorem d_MD_farthest_2 : decode prog_12_method_156_code 2 = .ok (.putfield 74, 3) := F_MD_farthest_0.2.2.1
theorem d_MD_farthest_5 : decode prog_12_method_156_code 5 = .ok (.aload_n 0, 1) := F_MD_farthest_0.2.2.2.1
theorem d_MD_farthest_6 : decode prog_12_method_156_code 6 = .ok (.iload_n 1, 1) := F_MD_farthest_0.2.2.2.2.1
theorem d_MD_farthest_7 : decode prog_12_method_156_code 7 = .ok (.invokevirtual 241, 3) := F_MD_farthest_0.2.2.2.2.2.1
theorem d_MD_farthest_10 : decode prog_12_method_156_code 10 = .ok (.ifCond .ne (7), 3) := F_MD_farthest_0.2.2.2.2.2.2.1
theorem d_MD_farthest_13 : decode prog_12_method_156_code 13 = .ok (.ldc2_w 307, 3) := F_MD_farthest_0.2.2.2.2.2.2.2.1
theorem d_MD_farthest_16 : decode prog_12_method_156_code 16 = .ok (.lreturn, 1) := F_MD_farthest_0.2.2.2.2.2.2.2.2.1
theorem d_MD_farthest_17 : decode prog_12_method_156_code 17 = .ok (.lconst 0, 1) := F_MD_farthest_0.2.2.2.2.2.2.2.2.2.1
theorem d_MD_farthest_18 : decode prog_12_method_156_code 18 = .ok (.lstore_n 2, 1) := F_MD_farthest_0.2.2.2.2.2.2.2.2.2.2.1
theorem d_MD_farthest_19 : decode prog_12_method_156_code 19 = .ok (.iconst 0, 1) := F_MD_farthest_0.2.2.2.2.2.2.2.2.2.2.2.1
theorem d_MD_farthest_20 : decode prog_12_method_156_code 20 = .ok (.istore 4, 2) := F_MD_farthest_0.2.2.2.2.2.2.2.2.2.2.2.2.1
theorem d_MD_farthest_22 : decode prog_12_method_156_code 22 = .ok (.iload 4, 2) := F_MD_farthest_0.2.2.2.2.2.2.2.2.2.2.2.2.2.1
theorem d_MD_farthest_24 : decode prog_12_method_156_code 24 = .ok (.i2l, 1) := F_MD_farthest_0.2.2.2.2.2.2.2.2.2.2.2.2.2.2.1
theorem d_MD_farthest_25 : decode prog_12_method_156_code 25 = .ok (.aload_n 0, 1) := F_MD_farthest_0.2.2.2.2.2.2.2.2.2.2.2.2.2.2.2.1
theorem d_MD_farthest_26 : decode prog_12_method_156_code 26 = .ok (.getfield 21, 3) := F_MD_farthest_0.2.2.2.2.2.2.2.2.2.2.2.2.2.2.2.2.1
theorem d_MD_farthest_29 : decode prog_12_method_156_code 29 = .ok (.sipush (169), 3) := F_MD_farthest_0.2.2.2.2.2.2.2.2.2.2.2.2.2.2.2.2.2.1
theorem d_MD_farthest_32 : decode prog_12_method_156_code 32 = .ok (.laload, 1) := F_MD_farthest_0.2.2.2.2.2.2.2.2.2.2.2.2.2.2.2.2.2.2.1
theorem d_MD_farthest_33 : decode prog_12_method_156_code 33 = .ok (.lcmp, 1) := F_MD_farthest_0.2.2.2.2.2.2.2.2.2.2.2.2.2.2.2.2.2.2.2.1
theorem d_MD_farthest_34 : decode prog_12_method_156_code 34 = .ok (.ifCond .ge (46), 3) := F_MD_farthest_0.2.2.2.2.2.2.2.2.2.2.2.2.2.2.2.2.2.2.2.2.1
theorem d_MD_farthest_37 : decode prog_12_method_156_code 37 = .ok (.aload_n 0, 1) := F_MD_farthest_0.2.2.2.2.2.2.2.2.2.2.2.2.2.2.2.2.2.2.2.2.2.1
theorem d_MD_farthest_38 : decode prog_12_method_156_code 38 = .ok (.iload_n 1, 1) := F_MD_farthest_0.2.2.2.2.2.2.2.2.2.2.2.2.2.2.2.2.2.2.2.2.2.2.1
theorem d_MD_farthest_39 : decode prog_12_method_156_code 39 = .ok (.iload 4, 2) := F_MD_farthest_0.2.2.2.2.2.2.2.2.2.2.2.2.2.2.2.2.2.2.2.2.2.2.2.1
theorem d_MD_farthest_41 : decode prog_12_method_156_code 41 = .ok (.invokevirtual 298, 3) := F_MD_farthest_0.2.2.2.2.2.2.2.2.2.2.2.2.2.2.2.2.2.2.2.2.2.2.2.2.1
theorem d_MD_farthest_44 : decode prog_12_method_156_code 44 = .ok (.iconst 0, 1) := F_MD_farthest_0.2.2.2.2.2.2.2.2.2.2.2.2.2.2.2.2.2.2.2.2.2.2.2.2.2.1
theorem d_MD_farthest_45 : decode prog_12_method_156_code 45 = .ok (.istore 5, 2) := F_MD_farthest_0.2.2.2.2.2.2.2.2.2.2.2.2.2.2.2.2.2.2.2.2.2.2.2.2.2.2.1
theorem d_MD_farthest_47 : decode prog_12_method_156_code 47 = .ok (.iload 5, 2) := F_MD_farthest_0.2.2.2.2.2.2.2.2.2.2.2.2.2.2.2.2.2.2.2.2.2.2.2.2.2.2.2.1
theorem d_MD_farthest_49 : decode prog_12_method_156_code 49 = .ok (.iconst 3, 1) := F_MD_farthest_0.2.2.2.2.2.2.2.2.2.2.2.2.2.2.2.2.2.2.2.2.2.2.2.2.2.2.2.2.1
theorem d_MD_farthest_50 : decode prog_12_method_156_code 50 = .ok (.if_icmp .ge (24), 3) := F_MD_farthest_0.2.2.2.2.2.2.2.2.2.2.2.2.2.2.2.2.2.2.2.2.2.2.2.2.2.2.2.2.2.1
theorem d_MD_farthest_53 : decode prog_12_method_156_code 53 = .ok (.lload_n 2, 1) := F_MD_farthest_0.2.2.2.2.2.2.2.2.2.2.2.2.2.2.2.2.2.2.2.2.2.2.2.2.2.2.2.2.2.2.1
theorem d_MD_farthest_54 : decode prog_12_method_156_code 54 = .ok (.aload_n 0, 1) := F_MD_farthest_0.2.2.2.2.2.2.2.2.2.2.2.2.2.2.2.2.2.2.2.2.2.2.2.2.2.2.2.2.2.2.2.1
theorem F_MD_farthest_55 : Jvm.Free.DS.Facts prog_12_method_156_code 55 [(.getfield 50, 3), (.iload 5, 2), (.laload, 1), (.invokestatic 210, 3), (.invokestatic 374, 3), (.lstore_n 2, 1), (.iinc 5 (1), 3), (.goto (-24), 3), (.iinc 4 (1), 3), (.goto (-55), 3), (.lload_n 2, 1), (.lreturn, 1)] := Jvm.Free.DS.facts 55 _ (by decide +kernel) (by decide +kernel)
theorem d_MD_farthest_55 : decode prog_12_method_156_code 55 = .ok (.getfield 50, 3) := F_MD_farthest_55.1
theorem d_MD_farthest_58 : decode prog_12_method_156_code 58 = .ok (.iload 5, 2) := F_MD_farthest_55.2.1
theorem d_MD_farthest_60 : decode prog_12_method_156_code 60 = .ok (.laload, 1) := F_MD_farthest_55.2.2.1
theorem d_MD_farthest_61 : decode prog_12_method_156_code 61 = .ok (.invokestatic 210, 3) := F_MD_farthest_55.2.2.2.1
theorem d_MD_farthest_64 : decode prog_12_method_156_code 64 = .ok (.invokestatic 374, 3) := F_MD_farthest_55.2.2.2.2.1
theorem d_MD_farthest_67 : decode prog_12_method_156_code 67 = .ok (.lstore_n 2, 1) := F_MD_farthest_55.2.2.2.2.2.1
theorem d_MD_farthest_68 : decode prog_12_method_156_code 68 = .ok (.iinc 5 (1), 3) := F_MD_farthest_55.2.2.2.2.2.2.1
theorem d_MD_farthest_71 : decode prog_12_method_156_code 71 = .ok (.goto (-24), 3) := F_MD_farthest_55.2.2.2.2.2.2.2.1
theorem d_MD_farthest_74 : decode prog_12_method_156_code 74 = .ok (.iinc 4 (1), 3) := F_MD_farthest_55.2.2.2.2.2.2.2.2.1
theorem d_MD_farthest_77 : decode prog_12_method_156_code 77 = .ok (.goto (-55), 3) := F_MD_farthest_55.2.2.2.2.2.2.2.2.2.1
theorem d_MD_farthest_80 : decode prog_12_method_156_code 80 = .ok (.lload_n 2, 1) := F_MD_farthest_55.2.2.2.2.2.2.2.2.2.2.1
theorem d_MD_farthest_81 : decode prog_12_method_156_code 81 = .ok (.lreturn, 1) := F_MD_farthest_55.2.2.2.2.2.2.2.2.2.2.2.1
theorem F_MD_find_0 : Jvm.Free.DS.Facts prog_12_method_157_code 0 [(.aload_n 0, 1), (.iconst 0, 1), (.putfield 74, 3), (.aload_n 0, 1), (.iload_n 1, 1), (.invokevirtual 238, 3), (.ifCond .eq (11), 3), (.aload_n 0, 1), (.iload_n 2, 1), (.invokevirtual 238, 3), (.ifCond .ne (5), 3), (.iconst (-1), 1), (.ireturn, 1), (.aload_n 0, 1), (.aload_n 0, 1), (.getfield 15, 3), (.iload_n 1, 1), (.iload_n 2, 1), (.invokevirtual 168, 3), (.iconst 0, 1), (.istore_n 3, 1), (.iload_n 3, 1), (.i2l, 1), (.aload_n 0, 1), (.getfield 21, 3), (.sipush (168), 3), (.laload, 1), (.lcmp, 1), (.ifCond .ge (19), 3), (.aload_n 0, 1), (.iload_n 3, 1), (.invokevirtual 331, 3)] := Jvm.Free.DS.facts 0 _ (by decide +kernel) (by decide +kernel)
theorem d_MD_find_0 : decode prog_12_method_157_code 0 = .ok (.aload_n 0, 1) := F_MD_find_0.1
theorem d_MD_find_1 : decode prog_12_method_157_code 1 = .ok (.iconst 0, 1) := F_MD_find_0.2.1
theorem d_MD_find_2 : decode prog_12_method_157_code 2 = .ok (.putfield 74, 3) := F_MD_find_0.2.2.1
theorem d_MD_find_5 : decode prog_12_method_157_code 5 = .ok (.aload_n 0, 1) := F_MD_find_0.2.2.2.1
theorem d_MD_find_6 : decode prog_12_method_157_code 6 = .ok (.iload_n 1, 1) := F_MD_find_0.2.2.2.2.1
theorem d_MD_find_7 : decode prog_12_method_157_code 7 = .ok (.invokevirtual 238, 3) := F_MD_find_0.2.2.2.2.2.1
theorem d_MD_find_10 : decode prog_12_method_157_code 10 = .ok (.ifCond .eq (11), 3) := F_MD_find_0.2.2.2.2.2.2.1
theorem d_MD_find_13 : decode prog_12_method_157_code 13 = .ok (.aload_n 0, 1) := F_MD_find_0.2.2.2.2.2.2.2.1
theorem d_MD_find_14 : decode prog_12_method_157_code 14 = .ok (.iload_n 2, 1) := F_MD_find_0.2.2.2.2.2.2.2.2.1
theorem d_MD_find_15 : decode prog_12_method_157_code 15 = .ok (.invokevirtual 238, 3) := F_MD_find_0.2.2.2.2.2.2.2.2.2.1
theorem d_MD_find_18 : decode prog_12_method_157_code 18 = .ok (.ifCond .ne (5), 3) := F_MD_find_0.2.2.2.2.2.2.2.2.2.2.1
theorem d_MD_find_21 : decode prog_12_method_157_code 21 = .ok (.iconst (-1), 1) := F_MD_find_0.2.2.2.2.2.2.2.2.2.2.2.1
theorem d_MD_find_22 : decode prog_12_method_157_code 22 = .ok (.ireturn, 1) := F_MD_find_0.2.2.2.2.2.2.2.2.2.2.2.2.1
theorem d_MD_find_23 : decode prog_12_method_157_code 23 = .ok (.aload_n 0, 1) := F_MD_find_0.2.2.2.2.2.2.2.2.2.2.2.2.2.1
theorem d_MD_find_24 : decode prog_12_method_157_code 24 = .ok (.aload_n 0, 1) := F_MD_find_0.2.2.2.2.2.2.2.2.2.2.2.2.2.2.1
theorem d_MD_find_25 : decode prog_12_method_157_code 25 = .ok (.getfield 15, 3) := F_MD_find_0.2.2.2.2.2.2.2.2.2.2.2.2.2.2.2.1
theorem d_MD_find_28 : decode prog_12_method_157_code 28 = .ok (.iload_n 1, 1) := F_MD_find_0.2.2.2.2.2.2.2.2.2.2.2.2.2.2.2.2.1
theorem d_MD_find_29 : decode prog_12_method_157_code 29 = .ok (.iload_n 2, 1) := F_MD_find_0.2.2.2.2.2.2.2.2.2.2.2.2.2.2.2.2.2.1
theorem d_MD_find_30 : decode prog_12_method_157_code 30 = .ok (.invokevirtual 168, 3) := F_MD_find_0.2.2.2.2.2.2.2.2.2.2.2.2.2.2.2.2.2.2.1
theorem d_MD_find_33 : decode prog_12_method_157_code 33 = .ok (.iconst 0, 1) := F_MD_find_0.2.2.2.2.2.2.2.2.2.2.2.2.2.2.2.2.2.2.2.1
theorem d_MD_find_34 : decode prog_12_method_157_code 34 = .ok (.istore_n 3, 1) := F_MD_find_0.2.2.2.2.2.2.2.2.2.2.2.2.2.2.2.2.2.2.2.2.1
theorem d_MD_find_35 : decode prog_12_method_157_code 35 = .ok (.iload_n 3, 1) := F_MD_find_0.2.2.2.2.2.2.2.2.2.2.2.2.2.2.2.2.2.2.2.2.2.1
theorem d_MD_find_36 : decode prog_12_method_157_code 36 = .ok (.i2l, 1) := F_MD_find_0.2.2.2.2.2.2.2.2.2.2.2.2.2.2.2.2.2.2.2.2.2.2.1
theorem d_MD_find_37 : decode prog_12_method_157_code 37 = .ok (.aload_n 0, 1) := F_MD_find_0.2.2.2.2.2.2.2.2.2.2.2.2.2.2.2.2.2.2.2.2.2.2.2.1
theorem d_MD_find_38 : decode prog_12_method_157_code 38 = .ok (.getfield 21, 3) := F_MD_find_0.2.2.2.2.2.2.2.2.2.2.2.2.2.2.2.2.2.2.2.2.2.2.2.2.1
theorem d_MD_find_41 : decode prog_12_method_157_code 41 = .ok (.sipush (168), 3) := F_MD_find_0.2.2.2.2.2.2.2.2.2.2.2.2.2.2.2.2.2.2.2.2.2.2.2.2.2.1
theorem d_MD_find_44 : decode prog_12_method_157_code 44 = .ok (.laload, 1) := F_MD_find_0.2.2.2.2.2.2.2.2.2.2.2.2.2.2.2.2.2.2.2.2.2.2.2.2.2.2.1
theorem d_MD_find_45 : decode prog_12_method_157_code 45 = .ok (.lcmp, 1) := F_MD_find_0.2.2.2.2.2.2.2.2.2.2.2.2.2.2.2.2.2.2.2.2.2.2.2.2.2.2.2.1
theorem d_MD_find_46 : decode prog_12_method_157_code 46 = .ok (.ifCond .ge (19), 3) := F_MD_find_0.2.2.2.2.2.2.2.2.2.2.2.2.2.2.2.2.2.2.2.2.2.2.2.2.2.2.2.2.1
theorem d_MD_find_49 : decode prog_12_method_157_code 49 = .ok (.aload_n 0, 1) := F_MD_find_0.2.2.2.2.2.2.2.2.2.2.2.2.2.2.2.2.2.2.2.2.2.2.2.2.2.2.2.2.2.1
theorem d_MD_find_50 : decode prog_12_method_157_code 50 = .ok (.iload_n 3, 1) := F_MD_find_0.2.2.2.2.2.2.2.2.2.2.2.2.2.2.2.2.2.2.2.2.2.2.2.2.2.2.2.2.2.2.1
theorem d_MD_find_51 : decode prog_12_method_157_code 51 = .ok (.invokevirtual 331, 3) := F_MD_find_0.2.2.2.2.2.2.2.2.2.2.2.2.2.2.2.2.2.2.2.2.2.2.2.2.2.2.2.2.2.2.2.1
theorem F_MD_find_54 : Jvm.Free.DS.Facts prog_12_method_157_code 54 [(.ifCond .eq (5), 3), (.iload_n 3, 1), (.ireturn, 1), (.iinc 3 (1), 3), (.goto (-27), 3), (.bipush (-2), 2), (.ireturn, 1)] := Jvm.Free.DS.facts 54 _ (by decide +kernel) (by decide +kernel)
theorem d_MD_find_54 : decode prog_12_method_157_code 54 = .ok (.ifCond .eq (5), 3) := F_MD_find_54.1
theorem d_MD_find_57 : decode prog_12_method_157_code 57 = .ok (.iload_n 3, 1) := F_MD_find_54.2.1
theorem d_MD_find_58 : decode prog_12_method_157_code 58 = .ok (.ireturn, 1) := F_MD_find_54.2.2.1
theorem d_MD_find_59 : decode prog_12_method_157_code 59 = .ok (.iinc 3 (1), 3) := F_MD_find_54.2.2.2.1
theorem d_MD_find_62 : decode prog_12_method_157_code 62 = .ok (.goto (-27), 3) := F_MD_find_54.2.2.2.2.1
theorem d_MD_find_65 : decode prog_12_method_157_code 65 = .ok (.bipush (-2), 2) := F_MD_find_54.2.2.2.2.2.1
theorem d_MD_find_67 : decode prog_12_method_157_code 67 = .ok (.ireturn, 1) := F_MD_find_54.2.2.2.2.2.2.1
