/-! the tables' words that a method may take for granted; the classes -/
def gtbl : List Cond := lw_tbl.filter goodWord
def nword : Cond → Bool
  | .fieldLinkNest .. => true
  | .methodLinkNest .. => true
  | .castable .. => true
  | .declares .. => true
  | _ => false
def ntbl : List Cond := tables_1.filter nword
theorem gtbl_in : GoodIn lw_tbl gtbl := fun w h => ⟨(List.mem_filter.mp h).1, good_of_word (List.mem_filter.mp h).2⟩
theorem gtbl_self : GoodIn gtbl gtbl := fun w h => ⟨h, good_of_word (List.mem_filter.mp h).2⟩
theorem g_at {w : Cond} (i : Nat) (h : tables_1[i]? = some w) (hg : goodWord w = true) : w ∈ gtbl := List.mem_filter.mpr ⟨List.mem_append_right _ (List.mem_of_getElem? h), hg⟩
theorem g_sel {w : Cond} (i : Nat) (h : (k2_sels lw_privs)[i]? = some w) (hg : goodWord w = true) : w ∈ gtbl := List.mem_filter.mpr ⟨List.mem_append_left _ (List.mem_of_getElem? h), hg⟩
theorem nt_at {w : Cond} (i : Nat) (h : tables_1[i]? = some w) (hg : nword w = true) : w ∈ ntbl := List.mem_filter.mpr ⟨List.mem_of_getElem? h, hg⟩
theorem g_all {ws : List Cond} (is : List Nat) (h : ws.map some = is.map (fun i => tables_1[i]?)) (hg : ws.all goodWord = true) : ∀ w ∈ ws, w ∈ gtbl := by
  intro w hw
  have h1 : some w ∈ ws.map some := List.mem_map.mpr ⟨w, hw, rfl⟩
  rw [h] at h1
  obtain ⟨i, -, hi⟩ := List.mem_map.mp h1
  exact g_at i hi (List.all_eq_true.mp hg w hw)
def R_Quad : String := "CornerMaps$Quad"
def F_Quad : u_T := fun k => match k with
  | _ => ("CornerMaps$Quad", "corners", "[[J", true)
def t_Quad : Nat → FieldType := fun k => match k with
  | _ => (.array (.array .long))
abbrev w_Quad : List Cond := u_ws R_Quad F_Quad 1
theorem n_Quad : ∀ a, a < 1 → ∀ b, b < 1 → a ≠ b → (F_Quad a).2.1 ≠ (F_Quad b).2.1 := by decide +kernel
theorem k_Quad : ∀ k, k < 1 → parseFieldDescriptor (F_Quad k).2.2.1 = some (t_Quad k) := by decide +kernel
theorem i_Quad : ∀ w ∈ w_Quad, w ∈ gtbl := g_all [60] (by decide +kernel) (by decide +kernel)
def R_Plane : String := "CornerMaps$Plane"
def F_Plane : u_T := fun k => match k with
  | 0 => ("CornerMaps$Plane", "quads", "[LCornerMaps$Quad;", true)
  | 1 => ("CornerMaps$Plane", "maps", "[[J", true)
  | 2 => ("CornerMaps$Plane", "points", "[[J", true)
  | 3 => ("CornerMaps$Plane", "lineCount", "I", false)
  | 4 => ("CornerMaps$Plane", "quadCount", "I", false)
  | 5 => ("CornerMaps$Plane", "mapCount", "I", false)
  | _ => ("CornerMaps$Plane", "pointCount", "I", false)
def t_Plane : Nat → FieldType := fun k => match k with
  | 0 => (.array (.object "CornerMaps$Quad"))
  | 1 => (.array (.array .long))
  | 2 => (.array (.array .long))
  | 3 => .int
  | 4 => .int
  | 5 => .int
  | _ => .int
abbrev w_Plane : List Cond := u_ws R_Plane F_Plane 7
theorem n_Plane : ∀ a, a < 7 → ∀ b, b < 7 → a ≠ b → (F_Plane a).2.1 ≠ (F_Plane b).2.1 := by decide +kernel
theorem k_Plane : ∀ k, k < 7 → parseFieldDescriptor (F_Plane k).2.2.1 = some (t_Plane k) := by decide +kernel
theorem i_Plane : ∀ w ∈ w_Plane, w ∈ gtbl := g_all [88, 90, 92, 94, 96, 98, 100] (by decide +kernel) (by decide +kernel)
def R_Tape : String := "CornerMaps$Tape"
def F_Tape : u_T := fun k => match k with
  | 0 => ("CornerMaps$Tape", "bytes", "[I", true)
  | _ => ("CornerMaps$Tape", "length", "I", false)
def t_Tape : Nat → FieldType := fun k => match k with
  | 0 => (.array .int)
  | _ => .int
abbrev w_Tape : List Cond := u_ws R_Tape F_Tape 2
theorem n_Tape : ∀ a, a < 2 → ∀ b, b < 2 → a ≠ b → (F_Tape a).2.1 ≠ (F_Tape b).2.1 := by decide +kernel
theorem k_Tape : ∀ k, k < 2 → parseFieldDescriptor (F_Tape k).2.2.1 = some (t_Tape k) := by decide +kernel
theorem i_Tape : ∀ w ∈ w_Tape, w ∈ gtbl := g_all [114, 116] (by decide +kernel) (by decide +kernel)
def R_Maker : String := "CornerMaps$Maker"
def F_Maker : u_T := fun k => match k with
  | 0 => ("CornerMaps$Maker", "frame", "[J", true)
  | 1 => ("CornerMaps$Maker", "back", "[J", true)
  | _ => ("CornerMaps$Maker", "square", "LCornerMaps$Quad;", true)
def t_Maker : Nat → FieldType := fun k => match k with
  | 0 => (.array .long)
  | 1 => (.array .long)
  | _ => (.object "CornerMaps$Quad")
abbrev w_Maker : List Cond := u_ws R_Maker F_Maker 3
theorem n_Maker : ∀ a, a < 3 → ∀ b, b < 3 → a ≠ b → (F_Maker a).2.1 ≠ (F_Maker b).2.1 := by decide +kernel
theorem k_Maker : ∀ k, k < 3 → parseFieldDescriptor (F_Maker k).2.2.1 = some (t_Maker k) := by decide +kernel
theorem i_Maker : ∀ w ∈ w_Maker, w ∈ gtbl := g_all [131, 133, 135] (by decide +kernel) (by decide +kernel)
def R_Reader : String := "CornerMaps$Reader"
def F_Reader : u_T := fun k => match k with
  | 0 => ("CornerMaps$Reader", "tape", "LCornerMaps$Tape;", true)
  | 1 => ("CornerMaps$Reader", "maker", "LCornerMaps$Maker;", true)
  | 2 => ("CornerMaps$Reader", "quadNames", "[I", true)
  | 3 => ("CornerMaps$Reader", "mapNames", "[I", true)
  | 4 => ("CornerMaps$Reader", "row", "[J", true)
  | 5 => ("CornerMaps$Reader", "madeMap", "[J", true)
  | 6 => ("CornerMaps$Reader", "plane", "LCornerMaps$Plane;", false)
  | 7 => ("CornerMaps$Reader", "end", "I", false)
  | 8 => ("CornerMaps$Reader", "at", "I", false)
  | 9 => ("CornerMaps$Reader", "token", "I", false)
  | 10 => ("CornerMaps$Reader", "tokenPlace", "I", false)
  | 11 => ("CornerMaps$Reader", "value", "I", false)
  | 12 => ("CornerMaps$Reader", "fault", "I", false)
  | _ => ("CornerMaps$Reader", "faultPlace", "I", false)
def t_Reader : Nat → FieldType := fun k => match k with
  | 0 => (.object "CornerMaps$Tape")
  | 1 => (.object "CornerMaps$Maker")
  | 2 => (.array .int)
  | 3 => (.array .int)
  | 4 => (.array .long)
  | 5 => (.array .long)
  | 6 => (.object "CornerMaps$Plane")
  | 7 => .int
  | 8 => .int
  | 9 => .int
  | 10 => .int
  | 11 => .int
  | 12 => .int
  | _ => .int
abbrev w_Reader : List Cond := u_ws R_Reader F_Reader 14
theorem n_Reader : ∀ a, a < 14 → ∀ b, b < 14 → a ≠ b → (F_Reader a).2.1 ≠ (F_Reader b).2.1 := by decide +kernel
theorem k_Reader : ∀ k, k < 14 → parseFieldDescriptor (F_Reader k).2.2.1 = some (t_Reader k) := by decide +kernel
theorem i_Reader : ∀ w ∈ w_Reader, w ∈ gtbl := g_all [160, 162, 164, 166, 168, 170, 172, 174, 176, 178, 180, 182, 184, 186] (by decide +kernel) (by decide +kernel)
def R_Past : String := "CornerMaps$Past"
def F_Past : u_T := fun k => match k with
  | 0 => ("CornerMaps$Past", "deeds", "[I", true)
  | 1 => ("CornerMaps$Past", "numbers", "[I", true)
  | 2 => ("CornerMaps$Past", "rows", "[[J", true)
  | 3 => ("CornerMaps$Past", "eldest", "I", false)
  | _ => ("CornerMaps$Past", "count", "I", false)
def t_Past : Nat → FieldType := fun k => match k with
  | 0 => (.array .int)
  | 1 => (.array .int)
  | 2 => (.array (.array .long))
  | 3 => .int
  | _ => .int
abbrev w_Past : List Cond := u_ws R_Past F_Past 5
theorem n_Past : ∀ a, a < 5 → ∀ b, b < 5 → a ≠ b → (F_Past a).2.1 ≠ (F_Past b).2.1 := by decide +kernel
theorem k_Past : ∀ k, k < 5 → parseFieldDescriptor (F_Past k).2.2.1 = some (t_Past k) := by decide +kernel
theorem i_Past : ∀ w ∈ w_Past, w ∈ gtbl := g_all [202, 204, 206, 208, 210] (by decide +kernel) (by decide +kernel)
def R_Pairs : String := "CornerMaps$Pairs"
def F_Pairs : u_T := fun k => match k with
  | 0 => ("CornerMaps$Pairs", "rows", "[[J", true)
  | 1 => ("CornerMaps$Pairs", "width", "I", false)
  | _ => ("CornerMaps$Pairs", "count", "I", false)
def t_Pairs : Nat → FieldType := fun k => match k with
  | 0 => (.array (.array .long))
  | 1 => .int
  | _ => .int
abbrev w_Pairs : List Cond := u_ws R_Pairs F_Pairs 3
theorem n_Pairs : ∀ a, a < 3 → ∀ b, b < 3 → a ≠ b → (F_Pairs a).2.1 ≠ (F_Pairs b).2.1 := by decide +kernel
theorem k_Pairs : ∀ k, k < 3 → parseFieldDescriptor (F_Pairs k).2.2.1 = some (t_Pairs k) := by decide +kernel
theorem i_Pairs : ∀ w ∈ w_Pairs, w ∈ gtbl := g_all [225, 227, 229] (by decide +kernel) (by decide +kernel)
def R_SB : String := "java/lang/StringBuilder"
def F_SB : u_T := fun k => match k with
  | 0 => ("java/lang/AbstractStringBuilder", "value", "[B", false)
  | 1 => ("java/lang/AbstractStringBuilder", "coder", "B", false)
  | 2 => ("java/lang/AbstractStringBuilder", "maybeLatin1", "Z", false)
  | _ => ("java/lang/AbstractStringBuilder", "count", "I", false)
def t_SB : Nat → FieldType := fun k => match k with
  | 0 => (.array .byte)
  | 1 => .byte
  | 2 => .boolean
  | _ => .int
abbrev w_SB : List Cond := u_ws R_SB F_SB 4
theorem n_SB : ∀ a, a < 4 → ∀ b, b < 4 → a ≠ b → (F_SB a).2.1 ≠ (F_SB b).2.1 := by decide +kernel
theorem k_SB : ∀ k, k < 4 → parseFieldDescriptor (F_SB k).2.2.1 = some (t_SB k) := by decide +kernel
theorem i_SB : ∀ w ∈ w_SB, w ∈ gtbl := g_all [255, 257, 259, 261] (by decide +kernel) (by decide +kernel)
def R_CM : String := "CornerMaps"
def F_CM : u_T := fun k => match k with
  | 0 => ("CornerMaps", "plane", "LCornerMaps$Plane;", false)
  | 1 => ("CornerMaps", "spare", "LCornerMaps$Plane;", false)
  | 2 => ("CornerMaps", "tape", "LCornerMaps$Tape;", true)
  | 3 => ("CornerMaps", "reader", "LCornerMaps$Reader;", true)
  | 4 => ("CornerMaps", "past", "LCornerMaps$Past;", true)
  | 5 => ("CornerMaps", "maker", "LCornerMaps$Maker;", true)
  | 6 => ("CornerMaps", "products", "LCornerMaps$Pairs;", true)
  | 7 => ("CornerMaps", "spelled", "Ljava/lang/StringBuilder;", true)
  | 8 => ("CornerMaps", "work", "[J", true)
  | 9 => ("CornerMaps", "otherWork", "[J", true)
  | 10 => ("CornerMaps", "risen", "[J", true)
  | 11 => ("CornerMaps", "given", "[J", true)
  | 12 => ("CornerMaps", "result", "[J", true)
  | 13 => ("CornerMaps", "step", "[J", true)
  | 14 => ("CornerMaps", "firstLine", "[J", true)
  | 15 => ("CornerMaps", "secondLine", "[J", true)
  | 16 => ("CornerMaps", "moved", "[[J", true)
  | _ => ("CornerMaps", "found", "[I", true)
def t_CM : Nat → FieldType := fun k => match k with
  | 0 => (.object "CornerMaps$Plane")
  | 1 => (.object "CornerMaps$Plane")
  | 2 => (.object "CornerMaps$Tape")
  | 3 => (.object "CornerMaps$Reader")
  | 4 => (.object "CornerMaps$Past")
  | 5 => (.object "CornerMaps$Maker")
  | 6 => (.object "CornerMaps$Pairs")
  | 7 => (.object "java/lang/StringBuilder")
  | 8 => (.array .long)
  | 9 => (.array .long)
  | 10 => (.array .long)
  | 11 => (.array .long)
  | 12 => (.array .long)
  | 13 => (.array .long)
  | 14 => (.array .long)
  | 15 => (.array .long)
  | 16 => (.array (.array .long))
  | _ => (.array .int)
abbrev w_CM : List Cond := u_ws R_CM F_CM 18
theorem n_CM : ∀ a, a < 18 → ∀ b, b < 18 → a ≠ b → (F_CM a).2.1 ≠ (F_CM b).2.1 := by decide +kernel
theorem k_CM : ∀ k, k < 18 → parseFieldDescriptor (F_CM k).2.2.1 = some (t_CM k) := by decide +kernel
theorem i_CM : ∀ w ∈ w_CM, w ∈ gtbl := g_all [284, 286, 288, 290, 292, 294, 296, 298, 300, 302, 304, 306, 308, 310, 312, 314, 316, 318] (by decide +kernel) (by decide +kernel)
def R_Model : String := "CornerMapsModel"
def F_Model : u_T := fun k => match k with
  | 0 => ("CornerMapsModel", "thrown", "I", false)
  | 1 => ("CornerMapsModel", "tape", "[I", true)
  | 2 => ("CornerMapsModel", "taped", "I", false)
  | 3 => ("CornerMapsModel", "quad", "[I", true)
  | 4 => ("CornerMapsModel", "newQuad", "[I", true)
  | 5 => ("CornerMapsModel", "quads", "I", false)
  | 6 => ("CornerMapsModel", "newQuads", "I", false)
  | 7 => ("CornerMapsModel", "now", "[J", true)
  | 8 => ("CornerMapsModel", "newNow", "[J", true)
  | 9 => ("CornerMapsModel", "past", "[J", true)
  | 10 => ("CornerMapsModel", "undone", "I", false)
  | 11 => ("CornerMapsModel", "lines", "I", false)
  | 12 => ("CornerMapsModel", "newLines", "I", false)
  | 13 => ("CornerMapsModel", "quadName", "[I", true)
  | 14 => ("CornerMapsModel", "mapName", "[I", true)
  | 15 => ("CornerMapsModel", "size", "I", false)
  | 16 => ("CornerMapsModel", "at", "I", false)
  | 17 => ("CornerMapsModel", "place", "I", false)
  | 18 => ("CornerMapsModel", "sort", "I", false)
  | 19 => ("CornerMapsModel", "value", "I", false)
  | 20 => ("CornerMapsModel", "word", "I", false)
  | 21 => ("CornerMapsModel", "fault", "I", false)
  | 22 => ("CornerMapsModel", "faultPlace", "I", false)
  | 23 => ("CornerMapsModel", "lastFault", "I", false)
  | 24 => ("CornerMapsModel", "lastPlace", "I", false)
  | 25 => ("CornerMapsModel", "nine", "[J", true)
  | 26 => ("CornerMapsModel", "other", "[J", true)
  | 27 => ("CornerMapsModel", "third", "[J", true)
  | 28 => ("CornerMapsModel", "three", "[J", true)
  | 29 => ("CornerMapsModel", "more", "[J", true)
  | 30 => ("CornerMapsModel", "pair", "[I", true)
  | 31 => ("CornerMapsModel", "kept", "[J", true)
  | 32 => ("CornerMapsModel", "row", "[I", true)
  | 33 => ("CornerMapsModel", "rowMany", "I", false)
  | 34 => ("CornerMapsModel", "unlike", "[J", true)
  | 35 => ("CornerMapsModel", "unlikeMany", "I", false)
  | 36 => ("CornerMapsModel", "spelt", "[I", true)
  | _ => ("CornerMapsModel", "speltMany", "I", false)
def t_Model : Nat → FieldType := fun k => match k with
  | 0 => .int
  | 1 => (.array .int)
  | 2 => .int
  | 3 => (.array .int)
  | 4 => (.array .int)
  | 5 => .int
  | 6 => .int
  | 7 => (.array .long)
  | 8 => (.array .long)
  | 9 => (.array .long)
  | 10 => .int
  | 11 => .int
  | 12 => .int
  | 13 => (.array .int)
  | 14 => (.array .int)
  | 15 => .int
  | 16 => .int
  | 17 => .int
  | 18 => .int
  | 19 => .int
  | 20 => .int
  | 21 => .int
  | 22 => .int
  | 23 => .int
  | 24 => .int
  | 25 => (.array .long)
  | 26 => (.array .long)
  | 27 => (.array .long)
  | 28 => (.array .long)
  | 29 => (.array .long)
  | 30 => (.array .int)
  | 31 => (.array .long)
  | 32 => (.array .int)
  | 33 => .int
  | 34 => (.array .long)
  | 35 => .int
  | 36 => (.array .int)
  | _ => .int
abbrev w_Model : List Cond := u_ws R_Model F_Model 38
theorem n_Model : ∀ a, a < 38 → ∀ b, b < 38 → a ≠ b → (F_Model a).2.1 ≠ (F_Model b).2.1 := by decide +kernel
theorem k_Model : ∀ k, k < 38 → parseFieldDescriptor (F_Model k).2.2.1 = some (t_Model k) := by decide +kernel
theorem i_Model : ∀ w ∈ w_Model, w ∈ gtbl := g_all [1535, 1537, 1539, 1541, 1543, 1545, 1547, 1549, 1551, 1553, 1555, 1557, 1559, 1561, 1563, 1565, 1567, 1569, 1571, 1573, 1575, 1577, 1579, 1581, 1583, 1585, 1587, 1589, 1591, 1593, 1595, 1597, 1599, 1601, 1603, 1605, 1607, 1609] (by decide +kernel) (by decide +kernel)
abbrev classes : List vw_C := [(R_Quad, F_Quad, 1), (R_Plane, F_Plane, 7), (R_Tape, F_Tape, 2), (R_Maker, F_Maker, 3), (R_Reader, F_Reader, 14), (R_Past, F_Past, 5), (R_Pairs, F_Pairs, 3), (R_SB, F_SB, 4), (R_CM, F_CM, 18), (R_Model, F_Model, 38)]
