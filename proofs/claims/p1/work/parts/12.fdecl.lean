/-! declarations for the calls on new objects (by program) -/
def cfL : List (Nat × pE) := [
  (154, .inl (0, 900, .inl (fun _ => 0))),
  (153, .inr (2, [.ref 154, .int 0])),
  (156, .inl (1, 9, .inr (.inl (fun _ => 0)))),
  (157, .inl (1, 9, .inr (.inl (fun _ => 0)))),
  (155, .inr (3, [.ref 156, .ref 157, .ref 158])),
  (165, .inl (0, 8, .inl (fun _ => 0))),
  (166, .inl (0, 8, .inl (fun _ => 0))),
  (167, .inl (1, 3, .inr (.inl (fun _ => 0)))),
  (168, .inl (1, 9, .inr (.inl (fun _ => 0)))),
  (164, .inr (4, [.ref 153, .ref 155, .ref 165, .ref 166, .ref 167, .ref 168, .ref 77, .int 0, .int 0, .int 0, .int 0, .int 0, .int 0, .int (-1)])),
  (170, .inl (0, 16, .inl (fun _ => 0))),
  (171, .inl (0, 16, .inl (fun _ => 0))),
  (172, .inl (3, 16, refs (rows_of 172 16))),
  (169, .inr (5, [.ref 170, .ref 171, .ref 172, .int 0, .int 0])),
  (190, .inl (3, 256, refs (rows_of 190 256))),
  (189, .inr (6, [.ref 190, .int 0, .int 0])),
  (448, .inl (2, 16, .inl (fun _ => 0))),
  (447, .inr (7, [.ref 448, .int 0, .int 0, .int 0])),
  (449, .inl (1, 9, .inr (.inl (fun _ => 0)))),
  (450, .inl (1, 9, .inr (.inl (fun _ => 0)))),
  (451, .inl (1, 9, .inr (.inl (fun _ => 0)))),
  (452, .inl (1, 3, .inr (.inl (fun _ => 0)))),
  (453, .inl (1, 3, .inr (.inl (fun _ => 0)))),
  (454, .inl (1, 3, .inr (.inl (fun _ => 0)))),
  (455, .inl (1, 3, .inr (.inl (fun _ => 0)))),
  (456, .inl (1, 3, .inr (.inl (fun _ => 0)))),
  (457, .inl (3, 8, refs (rows_of 457 8))),
  (466, .inl (0, 3, .inl (fun _ => 0))),
  (0, .inr (8, [.ref 1, .ref 77, .ref 153, .ref 164, .ref 169, .ref 155, .ref 189, .ref 447, .ref 449, .ref 450, .ref 451, .ref 452, .ref 453, .ref 454, .ref 455, .ref 456, .ref 457, .ref 466])),
  (1, .inr (1, [.ref 2, .ref 3, .ref 20, .int 0, .int 0, .int 0, .int 0])),
  (77, .inr (1, [.ref 78, .ref 79, .ref 96, .int 0, .int 0, .int 0, .int 0])),
  (20, .inl (3, 8, refs (rows_of 20 8))),
  (21, z3)]
def mfL : List (Nat × pE) := [
  (468, .inl (0, 900, .inl (fun _ => 0))),
  (469, .inl (0, 64, .inl (fun _ => 0))),
  (470, .inl (0, 64, .inl (fun _ => 0))),
  (471, .inl (1, 170, .inr (.inl (fun _ => 0)))),
  (472, .inl (1, 170, .inr (.inl (fun _ => 0)))),
  (473, .inl (1, 2720, .inr (.inl (fun _ => 0)))),
  (474, .inl (0, 8, .inl (fun _ => 0))),
  (475, .inl (0, 8, .inl (fun _ => 0))),
  (476, .inl (1, 9, .inr (.inl (fun _ => 0)))),
  (477, .inl (1, 9, .inr (.inl (fun _ => 0)))),
  (478, .inl (1, 9, .inr (.inl (fun _ => 0)))),
  (479, .inl (1, 3, .inr (.inl (fun _ => 0)))),
  (480, .inl (1, 3, .inr (.inl (fun _ => 0)))),
  (481, .inl (0, 16, .inl (fun _ => 0))),
  (482, .inl (1, 9, .inr (.inl (fun _ => 0)))),
  (483, .inl (0, 3, .inl (fun _ => 0))),
  (484, .inl (1, 2448, .inr (.inl (fun _ => 0)))),
  (485, .inl (0, 108, .inl (fun _ => 0))),
  (467, .inr (9, [.int 0, .ref 468, .int 0, .ref 469, .ref 470, .int 0, .int 0, .ref 471, .ref 472, .ref 473, .int 0, .int 0, .int 0, .ref 474, .ref 475, .int 0, .int 0, .int 0, .int 0, .int 0, .int 0, .int 0, .int 0, .int 0, .int (-1), .ref 476, .ref 477, .ref 478, .ref 479, .ref 480, .ref 481, .ref 482, .ref 483, .int 0, .ref 484, .int 0, .ref 485, .int 0]))]
def Has (L : List (Nat × pE)) (f : Nat → pE) : Prop := ∀ q ∈ L, f q.1 = q.2
theorem fa {L : List (Nat × pE)} {f : Nat → pE} (h : Has L f) (i : Nat) {r : Nat} {e : pE} (hi : L[i]? = some (r, e)) : f r = e := h (r, e) (List.mem_of_getElem? hi)
theorem i_contra {q : Int32} (h1 : ¬ q < 0) (h2 : ¬ 0 ≤ q) : False := h2 (Int32.not_lt.mp h1)
theorem l_contra {q : Int32} (h1 : ¬ q < 0) (h2 : ¬ 0 ≤ lg_cmp q.toInt64 0) : False := by
  apply h2
  have h3 : ¬ q.toInt64 < 0 := by
    rw [show (0 : Int64) = (0 : Int32).toInt64 from rfl]
    rw [Int64.lt_iff_toInt_lt, Int32.toInt_toInt64, Int32.toInt_toInt64, ← Int32.lt_iff_toInt_lt]
    exact h1
  unfold lg_cmp
  split
  · decide
  · split
    · decide
    · first | (rename_i h4 h5; exact absurd (Int64.lt_of_le_of_ne (Int64.not_lt.mp h4) h5) h3) | (rename_i h4 h5; exact absurd h5 h3) | decide
def M_Plane_hasQuad : pM := (⟨"CornerMaps$Plane", "hasQuad", "(I)Z"⟩, prog_6_method_3_code, 2, some .boolean)
theorem co_Plane_hasQuad : CalOK M_Plane_hasQuad 1 := ⟨g_at 507 (by decide +kernel) rfl, g_at 2 (by decide +kernel) rfl, by decide +kernel, by decide +kernel, by decide +kernel⟩
theorem pn_Plane_hasQuad : plainName M_Plane_hasQuad.1.cls = true := by decide +kernel
def M_Plane_hasMap : pM := (⟨"CornerMaps$Plane", "hasMap", "(I)Z"⟩, prog_6_method_4_code, 2, some .boolean)
theorem co_Plane_hasMap : CalOK M_Plane_hasMap 1 := ⟨g_at 571 (by decide +kernel) rfl, g_at 2 (by decide +kernel) rfl, by decide +kernel, by decide +kernel, by decide +kernel⟩
theorem pn_Plane_hasMap : plainName M_Plane_hasMap.1.cls = true := by decide +kernel
def M_Plane_hasPoint : pM := (⟨"CornerMaps$Plane", "hasPoint", "(I)Z"⟩, prog_6_method_5_code, 2, some .boolean)
theorem co_Plane_hasPoint : CalOK M_Plane_hasPoint 1 := ⟨g_at 699 (by decide +kernel) rfl, g_at 2 (by decide +kernel) rfl, by decide +kernel, by decide +kernel, by decide +kernel⟩
theorem pn_Plane_hasPoint : plainName M_Plane_hasPoint.1.cls = true := by decide +kernel
def M_MD_isQuad : pM := (⟨"CornerMapsModel", "isQuad", "(I)Z"⟩, prog_12_method_37_code, 2, some .boolean)
theorem co_MD_isQuad : CalOK M_MD_isQuad 1 := ⟨g_at 1759 (by decide +kernel) rfl, g_at 13 (by decide +kernel) rfl, by decide +kernel, by decide +kernel, by decide +kernel⟩
theorem pn_MD_isQuad : plainName M_MD_isQuad.1.cls = true := by decide +kernel
def M_MD_isMap : pM := (⟨"CornerMapsModel", "isMap", "(I)Z"⟩, prog_12_method_38_code, 2, some .boolean)
theorem co_MD_isMap : CalOK M_MD_isMap 1 := ⟨g_at 1767 (by decide +kernel) rfl, g_at 13 (by decide +kernel) rfl, by decide +kernel, by decide +kernel, by decide +kernel⟩
theorem pn_MD_isMap : plainName M_MD_isMap.1.cls = true := by decide +kernel
def M_MD_isPoint : pM := (⟨"CornerMapsModel", "isPoint", "(I)Z"⟩, prog_12_method_39_code, 2, some .boolean)
theorem co_MD_isPoint : CalOK M_MD_isPoint 1 := ⟨g_at 1778 (by decide +kernel) rfl, g_at 13 (by decide +kernel) rfl, by decide +kernel, by decide +kernel, by decide +kernel⟩
theorem pn_MD_isPoint : plainName M_MD_isPoint.1.cls = true := by decide +kernel
def M_CM_corner : pM := (⟨"CornerMaps", "corner", "(III)I"⟩, prog_1_method_5_code, 4, some .int)
theorem co_CM_corner : CalOK M_CM_corner 3 := ⟨g_at 1440 (by decide +kernel) rfl, g_at 1 (by decide +kernel) rfl, by decide +kernel, by decide +kernel, by decide +kernel⟩
theorem pn_CM_corner : plainName M_CM_corner.1.cls = true := by decide +kernel
def M_MD_corner : pM := (⟨"CornerMapsModel", "corner", "(III)I"⟩, prog_12_method_42_code, 4, some .int)
theorem co_MD_corner : CalOK M_MD_corner 3 := ⟨g_at 1755 (by decide +kernel) rfl, g_at 13 (by decide +kernel) rfl, by decide +kernel, by decide +kernel, by decide +kernel⟩
theorem pn_MD_corner : plainName M_MD_corner.1.cls = true := by decide +kernel
def M_CM_map : pM := (⟨"CornerMaps", "map", "(III)I"⟩, prog_1_method_6_code, 4, some .int)
theorem co_CM_map : CalOK M_CM_map 3 := ⟨g_at 1483 (by decide +kernel) rfl, g_at 1 (by decide +kernel) rfl, by decide +kernel, by decide +kernel, by decide +kernel⟩
theorem pn_CM_map : plainName M_CM_map.1.cls = true := by decide +kernel
def M_MD_map : pM := (⟨"CornerMapsModel", "map", "(III)I"⟩, prog_12_method_43_code, 4, some .int)
theorem co_MD_map : CalOK M_MD_map 3 := ⟨g_at 1763 (by decide +kernel) rfl, g_at 13 (by decide +kernel) rfl, by decide +kernel, by decide +kernel, by decide +kernel⟩
theorem pn_MD_map : plainName M_MD_map.1.cls = true := by decide +kernel
def M_CM_point : pM := (⟨"CornerMaps", "point", "(II)I"⟩, prog_1_method_7_code, 3, some .int)
theorem co_CM_point : CalOK M_CM_point 2 := ⟨g_at 1490 (by decide +kernel) rfl, g_at 1 (by decide +kernel) rfl, by decide +kernel, by decide +kernel, by decide +kernel⟩
theorem pn_CM_point : plainName M_CM_point.1.cls = true := by decide +kernel
def M_MD_point : pM := (⟨"CornerMapsModel", "point", "(II)I"⟩, prog_12_method_44_code, 3, some .int)
theorem co_MD_point : CalOK M_MD_point 2 := ⟨g_at 1774 (by decide +kernel) rfl, g_at 13 (by decide +kernel) rfl, by decide +kernel, by decide +kernel, by decide +kernel⟩
theorem pn_MD_point : plainName M_MD_point.1.cls = true := by decide +kernel
def M_CM_feed : pM := (⟨"CornerMaps", "feed", "(IIIII)I"⟩, prog_1_method_2_code, 6, some .int)
theorem co_CM_feed : CalOK M_CM_feed 5 := ⟨g_at 324 (by decide +kernel) rfl, g_at 1 (by decide +kernel) rfl, by decide +kernel, by decide +kernel, by decide +kernel⟩
theorem pn_CM_feed : plainName M_CM_feed.1.cls = true := by decide +kernel
def M_MD_feed : pM := (⟨"CornerMapsModel", "feed", "(IIIII)I"⟩, prog_12_method_3_code, 8, some .int)
theorem co_MD_feed : CalOK M_MD_feed 5 := ⟨g_at 1619 (by decide +kernel) rfl, g_at 13 (by decide +kernel) rfl, by decide +kernel, by decide +kernel, by decide +kernel⟩
theorem pn_MD_feed : plainName M_MD_feed.1.cls = true := by decide +kernel
def M_CM_text : pM := (⟨"CornerMaps", "text", "(I)I"⟩, prog_1_method_3_code, 4, some .int)
theorem co_CM_text : CalOK M_CM_text 1 := ⟨g_at 336 (by decide +kernel) rfl, g_at 1 (by decide +kernel) rfl, by decide +kernel, by decide +kernel, by decide +kernel⟩
theorem pn_CM_text : plainName M_CM_text.1.cls = true := by decide +kernel
def M_MD_text : pM := (⟨"CornerMapsModel", "text", "(I)I"⟩, prog_12_method_21_code, 3, some .int)
theorem co_MD_text : CalOK M_MD_text 1 := ⟨g_at 1623 (by decide +kernel) rfl, g_at 13 (by decide +kernel) rfl, by decide +kernel, by decide +kernel, by decide +kernel⟩
theorem pn_MD_text : plainName M_MD_text.1.cls = true := by decide +kernel
def M_CM_fault : pM := (⟨"CornerMaps", "fault", "(I)I"⟩, prog_1_method_4_code, 2, some .int)
theorem co_CM_fault : CalOK M_CM_fault 1 := ⟨g_at 499 (by decide +kernel) rfl, g_at 1 (by decide +kernel) rfl, by decide +kernel, by decide +kernel, by decide +kernel⟩
theorem pn_CM_fault : plainName M_CM_fault.1.cls = true := by decide +kernel
def M_MD_fault : pM := (⟨"CornerMapsModel", "fault", "(I)I"⟩, prog_12_method_22_code, 2, some .int)
theorem co_MD_fault : CalOK M_MD_fault 1 := ⟨g_at 1751 (by decide +kernel) rfl, g_at 13 (by decide +kernel) rfl, by decide +kernel, by decide +kernel, by decide +kernel⟩
theorem pn_MD_fault : plainName M_MD_fault.1.cls = true := by decide +kernel
def M_CM_shape : pM := (⟨"CornerMaps", "shape", "(I)I"⟩, prog_1_method_8_code, 2, some .int)
theorem co_CM_shape : CalOK M_CM_shape 1 := ⟨g_at 503 (by decide +kernel) rfl, g_at 1 (by decide +kernel) rfl, by decide +kernel, by decide +kernel, by decide +kernel⟩
theorem pn_CM_shape : plainName M_CM_shape.1.cls = true := by decide +kernel
def M_MD_shape : pM := (⟨"CornerMapsModel", "shape", "(I)I"⟩, prog_12_method_48_code, 2, some .int)
theorem co_MD_shape : CalOK M_MD_shape 1 := ⟨g_at 1786 (by decide +kernel) rfl, g_at 13 (by decide +kernel) rfl, by decide +kernel, by decide +kernel, by decide +kernel⟩
theorem pn_MD_shape : plainName M_MD_shape.1.cls = true := by decide +kernel
def M_CM_dent : pM := (⟨"CornerMaps", "dent", "(I)I"⟩, prog_1_method_9_code, 5, some .int)
theorem co_CM_dent : CalOK M_CM_dent 1 := ⟨g_at 524 (by decide +kernel) rfl, g_at 1 (by decide +kernel) rfl, by decide +kernel, by decide +kernel, by decide +kernel⟩
theorem pn_CM_dent : plainName M_CM_dent.1.cls = true := by decide +kernel
def M_MD_dent : pM := (⟨"CornerMapsModel", "dent", "(I)I"⟩, prog_12_method_49_code, 2, some .int)
theorem co_MD_dent : CalOK M_MD_dent 1 := ⟨g_at 1802 (by decide +kernel) rfl, g_at 13 (by decide +kernel) rfl, by decide +kernel, by decide +kernel, by decide +kernel⟩
theorem pn_MD_dent : plainName M_MD_dent.1.cls = true := by decide +kernel
def M_CM_area : pM := (⟨"CornerMaps", "area", "(I)I"⟩, prog_1_method_10_code, 2, some .int)
theorem co_CM_area : CalOK M_CM_area 1 := ⟨g_at 529 (by decide +kernel) rfl, g_at 1 (by decide +kernel) rfl, by decide +kernel, by decide +kernel, by decide +kernel⟩
theorem pn_CM_area : plainName M_CM_area.1.cls = true := by decide +kernel
def M_MD_area : pM := (⟨"CornerMapsModel", "area", "(I)I"⟩, prog_12_method_50_code, 2, some .int)
theorem co_MD_area : CalOK M_MD_area 1 := ⟨g_at 1806 (by decide +kernel) rfl, g_at 13 (by decide +kernel) rfl, by decide +kernel, by decide +kernel, by decide +kernel⟩
theorem pn_MD_area : plainName M_MD_area.1.cls = true := by decide +kernel
def M_CM_make : pM := (⟨"CornerMaps", "make", "(II)I"⟩, prog_1_method_11_code, 3, some .int)
theorem co_CM_make : CalOK M_CM_make 2 := ⟨g_at 538 (by decide +kernel) rfl, g_at 1 (by decide +kernel) rfl, by decide +kernel, by decide +kernel, by decide +kernel⟩
theorem pn_CM_make : plainName M_CM_make.1.cls = true := by decide +kernel
def M_MD_make : pM := (⟨"CornerMapsModel", "make", "(II)I"⟩, prog_12_method_54_code, 3, some .int)
theorem co_MD_make : CalOK M_MD_make 2 := ⟨g_at 1815 (by decide +kernel) rfl, g_at 13 (by decide +kernel) rfl, by decide +kernel, by decide +kernel, by decide +kernel⟩
theorem pn_MD_make : plainName M_MD_make.1.cls = true := by decide +kernel
def M_CM_square : pM := (⟨"CornerMaps", "square", "(II)I"⟩, prog_1_method_12_code, 3, some .int)
theorem co_CM_square : CalOK M_CM_square 2 := ⟨g_at 557 (by decide +kernel) rfl, g_at 1 (by decide +kernel) rfl, by decide +kernel, by decide +kernel, by decide +kernel⟩
theorem pn_CM_square : plainName M_CM_square.1.cls = true := by decide +kernel
def M_MD_square : pM := (⟨"CornerMapsModel", "square", "(II)I"⟩, prog_12_method_55_code, 4, some .int)
theorem co_MD_square : CalOK M_MD_square 2 := ⟨g_at 1828 (by decide +kernel) rfl, g_at 13 (by decide +kernel) rfl, by decide +kernel, by decide +kernel, by decide +kernel⟩
theorem pn_MD_square : plainName M_MD_square.1.cls = true := by decide +kernel
def M_CM_product : pM := (⟨"CornerMaps", "product", "(II)I"⟩, prog_1_method_13_code, 3, some .int)
theorem co_CM_product : CalOK M_CM_product 2 := ⟨g_at 567 (by decide +kernel) rfl, g_at 1 (by decide +kernel) rfl, by decide +kernel, by decide +kernel, by decide +kernel⟩
theorem pn_CM_product : plainName M_CM_product.1.cls = true := by decide +kernel
def M_MD_product : pM := (⟨"CornerMapsModel", "product", "(II)I"⟩, prog_12_method_57_code, 3, some .int)
theorem co_MD_product : CalOK M_MD_product 2 := ⟨g_at 1832 (by decide +kernel) rfl, g_at 13 (by decide +kernel) rfl, by decide +kernel, by decide +kernel, by decide +kernel⟩
theorem pn_MD_product : plainName M_MD_product.1.cls = true := by decide +kernel
def M_CM_inverse : pM := (⟨"CornerMaps", "inverse", "(I)I"⟩, prog_1_method_14_code, 2, some .int)
theorem co_CM_inverse : CalOK M_CM_inverse 1 := ⟨g_at 576 (by decide +kernel) rfl, g_at 1 (by decide +kernel) rfl, by decide +kernel, by decide +kernel, by decide +kernel⟩
theorem pn_CM_inverse : plainName M_CM_inverse.1.cls = true := by decide +kernel
def M_MD_inverse : pM := (⟨"CornerMapsModel", "inverse", "(I)I"⟩, prog_12_method_59_code, 2, some .int)
theorem co_MD_inverse : CalOK M_MD_inverse 1 := ⟨g_at 1844 (by decide +kernel) rfl, g_at 13 (by decide +kernel) rfl, by decide +kernel, by decide +kernel, by decide +kernel⟩
theorem pn_MD_inverse : plainName M_MD_inverse.1.cls = true := by decide +kernel
def M_CM_power : pM := (⟨"CornerMaps", "power", "(II)I"⟩, prog_1_method_15_code, 4, some .int)
theorem co_CM_power : CalOK M_CM_power 2 := ⟨g_at 581 (by decide +kernel) rfl, g_at 1 (by decide +kernel) rfl, by decide +kernel, by decide +kernel, by decide +kernel⟩
theorem pn_CM_power : plainName M_CM_power.1.cls = true := by decide +kernel
def M_MD_power : pM := (⟨"CornerMapsModel", "power", "(II)I"⟩, prog_12_method_61_code, 4, some .int)
theorem co_MD_power : CalOK M_MD_power 2 := ⟨g_at 1852 (by decide +kernel) rfl, g_at 13 (by decide +kernel) rfl, by decide +kernel, by decide +kernel, by decide +kernel⟩
theorem pn_MD_power : plainName M_MD_power.1.cls = true := by decide +kernel
def M_CM_drop : pM := (⟨"CornerMaps", "drop", "(I)I"⟩, prog_1_method_16_code, 2, some .int)
theorem co_CM_drop : CalOK M_CM_drop 1 := ⟨g_at 592 (by decide +kernel) rfl, g_at 1 (by decide +kernel) rfl, by decide +kernel, by decide +kernel, by decide +kernel⟩
theorem pn_CM_drop : plainName M_CM_drop.1.cls = true := by decide +kernel
def M_MD_drop : pM := (⟨"CornerMapsModel", "drop", "(I)I"⟩, prog_12_method_62_code, 3, some .int)
theorem co_MD_drop : CalOK M_MD_drop 1 := ⟨g_at 1864 (by decide +kernel) rfl, g_at 13 (by decide +kernel) rfl, by decide +kernel, by decide +kernel, by decide +kernel⟩
theorem pn_MD_drop : plainName M_MD_drop.1.cls = true := by decide +kernel
def M_CM_tell : pM := (⟨"CornerMaps", "tell", "(III)I"⟩, prog_1_method_17_code, 4, some .int)
theorem co_CM_tell : CalOK M_CM_tell 3 := ⟨g_at 606 (by decide +kernel) rfl, g_at 1 (by decide +kernel) rfl, by decide +kernel, by decide +kernel, by decide +kernel⟩
theorem pn_CM_tell : plainName M_CM_tell.1.cls = true := by decide +kernel
def M_CM_areNumbers : pM := (⟨"CornerMaps", "areNumbers", "(III)Z"⟩, prog_1_method_79_code, 3, some .boolean)
theorem co_CM_areNumbers : CalOK M_CM_areNumbers 3 := ⟨g_at 609 (by decide +kernel) rfl, g_at 1 (by decide +kernel) rfl, by decide +kernel, by decide +kernel, by decide +kernel⟩
theorem pn_CM_areNumbers : plainName M_CM_areNumbers.1.cls = true := by decide +kernel
def M_CM_isNumber : pM := (⟨"CornerMaps", "isNumber", "(I)Z"⟩, prog_1_method_78_code, 1, some .boolean)
theorem co_CM_isNumber : CalOK M_CM_isNumber 1 := ⟨g_at 612 (by decide +kernel) rfl, g_at 1 (by decide +kernel) rfl, by decide +kernel, by decide +kernel, by decide +kernel⟩
theorem pn_CM_isNumber : plainName M_CM_isNumber.1.cls = true := by decide +kernel
def M_MD_tell : pM := (⟨"CornerMapsModel", "tell", "(III)I"⟩, prog_12_method_64_code, 5, some .int)
theorem co_MD_tell : CalOK M_MD_tell 3 := ⟨g_at 1868 (by decide +kernel) rfl, g_at 13 (by decide +kernel) rfl, by decide +kernel, by decide +kernel, by decide +kernel⟩
theorem pn_MD_tell : plainName M_MD_tell.1.cls = true := by decide +kernel
def M_MD_isEdge : pM := (⟨"CornerMapsModel", "isEdge", "(I)Z"⟩, prog_12_method_63_code, 1, some .boolean)
theorem co_MD_isEdge : CalOK M_MD_isEdge 1 := ⟨g_at 1871 (by decide +kernel) rfl, g_at 13 (by decide +kernel) rfl, by decide +kernel, by decide +kernel, by decide +kernel⟩
theorem pn_MD_isEdge : plainName M_MD_isEdge.1.cls = true := by decide +kernel
def M_CM_moves : pM := (⟨"CornerMaps", "moves", "(I)I"⟩, prog_1_method_18_code, 3, some .int)
theorem co_CM_moves : CalOK M_CM_moves 1 := ⟨g_at 625 (by decide +kernel) rfl, g_at 1 (by decide +kernel) rfl, by decide +kernel, by decide +kernel, by decide +kernel⟩
theorem pn_CM_moves : plainName M_CM_moves.1.cls = true := by decide +kernel
def M_MD_moves : pM := (⟨"CornerMapsModel", "moves", "(I)I"⟩, prog_12_method_67_code, 5, some .int)
theorem co_MD_moves : CalOK M_MD_moves 1 := ⟨g_at 1876 (by decide +kernel) rfl, g_at 13 (by decide +kernel) rfl, by decide +kernel, by decide +kernel, by decide +kernel⟩
theorem pn_MD_moves : plainName M_MD_moves.1.cls = true := by decide +kernel
def M_CM_undo : pM := (⟨"CornerMaps", "undo", "()I"⟩, prog_1_method_19_code, 1, some .int)
theorem co_CM_undo : CalOK M_CM_undo 0 := ⟨g_at 649 (by decide +kernel) rfl, g_at 1 (by decide +kernel) rfl, by decide +kernel, by decide +kernel, by decide +kernel⟩
theorem pn_CM_undo : plainName M_CM_undo.1.cls = true := by decide +kernel
def M_MD_undo : pM := (⟨"CornerMapsModel", "undo", "()I"⟩, prog_12_method_52_code, 2, some .int)
theorem co_MD_undo : CalOK M_MD_undo 0 := ⟨g_at 1811 (by decide +kernel) rfl, g_at 13 (by decide +kernel) rfl, by decide +kernel, by decide +kernel, by decide +kernel⟩
theorem pn_MD_undo : plainName M_MD_undo.1.cls = true := by decide +kernel
def M_CM_image : pM := (⟨"CornerMaps", "image", "(IIIII)J"⟩, prog_1_method_20_code, 6, some .long)
theorem co_CM_image : CalOK M_CM_image 5 := ⟨g_at 662 (by decide +kernel) rfl, g_at 1 (by decide +kernel) rfl, by decide +kernel, by decide +kernel, by decide +kernel⟩
theorem pn_CM_image : plainName M_CM_image.1.cls = true := by decide +kernel
def M_MD_image : pM := (⟨"CornerMapsModel", "image", "(IIIII)J"⟩, prog_12_method_69_code, 6, some .long)
theorem co_MD_image : CalOK M_MD_image 5 := ⟨g_at 1889 (by decide +kernel) rfl, g_at 13 (by decide +kernel) rfl, by decide +kernel, by decide +kernel, by decide +kernel⟩
theorem pn_MD_image : plainName M_MD_image.1.cls = true := by decide +kernel
def M_CM_before : pM := (⟨"CornerMaps", "before", "(IIIII)J"⟩, prog_1_method_21_code, 6, some .long)
theorem co_CM_before : CalOK M_CM_before 5 := ⟨g_at 673 (by decide +kernel) rfl, g_at 1 (by decide +kernel) rfl, by decide +kernel, by decide +kernel, by decide +kernel⟩
theorem pn_CM_before : plainName M_CM_before.1.cls = true := by decide +kernel
def M_MD_before : pM := (⟨"CornerMapsModel", "before", "(IIIII)J"⟩, prog_12_method_70_code, 6, some .long)
theorem co_MD_before : CalOK M_MD_before 5 := ⟨g_at 1897 (by decide +kernel) rfl, g_at 13 (by decide +kernel) rfl, by decide +kernel, by decide +kernel, by decide +kernel⟩
theorem pn_MD_before : plainName M_MD_before.1.cls = true := by decide +kernel
def M_CM_line : pM := (⟨"CornerMaps", "line", "(IIIII)J"⟩, prog_1_method_22_code, 6, some .long)
theorem co_CM_line : CalOK M_CM_line 5 := ⟨g_at 678 (by decide +kernel) rfl, g_at 1 (by decide +kernel) rfl, by decide +kernel, by decide +kernel, by decide +kernel⟩
theorem pn_CM_line : plainName M_CM_line.1.cls = true := by decide +kernel
def M_MD_line : pM := (⟨"CornerMapsModel", "line", "(IIIII)J"⟩, prog_12_method_71_code, 6, some .long)
theorem co_MD_line : CalOK M_MD_line 5 := ⟨g_at 1902 (by decide +kernel) rfl, g_at 13 (by decide +kernel) rfl, by decide +kernel, by decide +kernel, by decide +kernel⟩
theorem pn_MD_line : plainName M_MD_line.1.cls = true := by decide +kernel
def M_CM_horizon : pM := (⟨"CornerMaps", "horizon", "(II)J"⟩, prog_1_method_23_code, 3, some .long)
theorem co_CM_horizon : CalOK M_CM_horizon 2 := ⟨g_at 685 (by decide +kernel) rfl, g_at 1 (by decide +kernel) rfl, by decide +kernel, by decide +kernel, by decide +kernel⟩
theorem pn_CM_horizon : plainName M_CM_horizon.1.cls = true := by decide +kernel
def M_MD_horizon : pM := (⟨"CornerMapsModel", "horizon", "(II)J"⟩, prog_12_method_72_code, 3, some .long)
theorem co_MD_horizon : CalOK M_MD_horizon 2 := ⟨g_at 1906 (by decide +kernel) rfl, g_at 13 (by decide +kernel) rfl, by decide +kernel, by decide +kernel, by decide +kernel⟩
theorem pn_MD_horizon : plainName M_MD_horizon.1.cls = true := by decide +kernel
def M_CM_vanishing : pM := (⟨"CornerMaps", "vanishing", "(II)J"⟩, prog_1_method_24_code, 3, some .long)
theorem co_CM_vanishing : CalOK M_CM_vanishing 2 := ⟨g_at 691 (by decide +kernel) rfl, g_at 1 (by decide +kernel) rfl, by decide +kernel, by decide +kernel, by decide +kernel⟩
theorem pn_CM_vanishing : plainName M_CM_vanishing.1.cls = true := by decide +kernel
def M_MD_vanishing : pM := (⟨"CornerMapsModel", "vanishing", "(II)J"⟩, prog_12_method_73_code, 3, some .long)
theorem co_MD_vanishing : CalOK M_MD_vanishing 2 := ⟨g_at 1910 (by decide +kernel) rfl, g_at 13 (by decide +kernel) rfl, by decide +kernel, by decide +kernel, by decide +kernel⟩
theorem pn_MD_vanishing : plainName M_MD_vanishing.1.cls = true := by decide +kernel
def M_CM_cut : pM := (⟨"CornerMaps", "cut", "(III)I"⟩, prog_1_method_25_code, 4, some .int)
theorem co_CM_cut : CalOK M_CM_cut 3 := ⟨g_at 695 (by decide +kernel) rfl, g_at 1 (by decide +kernel) rfl, by decide +kernel, by decide +kernel, by decide +kernel⟩
theorem pn_CM_cut : plainName M_CM_cut.1.cls = true := by decide +kernel
def M_MD_cut : pM := (⟨"CornerMapsModel", "cut", "(III)I"⟩, prog_12_method_75_code, 5, some .int)
theorem co_MD_cut : CalOK M_MD_cut 3 := ⟨g_at 1914 (by decide +kernel) rfl, g_at 13 (by decide +kernel) rfl, by decide +kernel, by decide +kernel, by decide +kernel⟩
theorem pn_MD_cut : plainName M_MD_cut.1.cls = true := by decide +kernel
def M_CM_cutSides : pM := (⟨"CornerMaps", "cutSides", "(II)I"⟩, prog_1_method_26_code, 6, some .int)
theorem co_CM_cutSides : CalOK M_CM_cutSides 2 := ⟨g_at 716 (by decide +kernel) rfl, g_at 1 (by decide +kernel) rfl, by decide +kernel, by decide +kernel, by decide +kernel⟩
theorem pn_CM_cutSides : plainName M_CM_cutSides.1.cls = true := by decide +kernel
def M_MD_cutSides : pM := (⟨"CornerMapsModel", "cutSides", "(II)I"⟩, prog_12_method_77_code, 5, some .int)
theorem co_MD_cutSides : CalOK M_MD_cutSides 2 := ⟨g_at 1925 (by decide +kernel) rfl, g_at 13 (by decide +kernel) rfl, by decide +kernel, by decide +kernel, by decide +kernel⟩
theorem pn_MD_cutSides : plainName M_MD_cutSides.1.cls = true := by decide +kernel
def M_CM_kind : pM := (⟨"CornerMaps", "kind", "(I)I"⟩, prog_1_method_27_code, 2, some .int)
theorem co_CM_kind : CalOK M_CM_kind 1 := ⟨g_at 720 (by decide +kernel) rfl, g_at 1 (by decide +kernel) rfl, by decide +kernel, by decide +kernel, by decide +kernel⟩
theorem pn_CM_kind : plainName M_CM_kind.1.cls = true := by decide +kernel
def M_MD_kind : pM := (⟨"CornerMapsModel", "kind", "(I)I"⟩, prog_12_method_79_code, 2, some .int)
theorem co_MD_kind : CalOK M_MD_kind 1 := ⟨g_at 1937 (by decide +kernel) rfl, g_at 13 (by decide +kernel) rfl, by decide +kernel, by decide +kernel, by decide +kernel⟩
theorem pn_MD_kind : plainName M_MD_kind.1.cls = true := by decide +kernel
def M_CM_turn : pM := (⟨"CornerMaps", "turn", "(I)I"⟩, prog_1_method_28_code, 3, some .int)
theorem co_CM_turn : CalOK M_CM_turn 1 := ⟨g_at 727 (by decide +kernel) rfl, g_at 1 (by decide +kernel) rfl, by decide +kernel, by decide +kernel, by decide +kernel⟩
theorem pn_CM_turn : plainName M_CM_turn.1.cls = true := by decide +kernel
def M_MD_turn : pM := (⟨"CornerMapsModel", "turn", "(I)I"⟩, prog_12_method_81_code, 3, some .int)
theorem co_MD_turn : CalOK M_MD_turn 1 := ⟨g_at 1949 (by decide +kernel) rfl, g_at 13 (by decide +kernel) rfl, by decide +kernel, by decide +kernel, by decide +kernel⟩
theorem pn_MD_turn : plainName M_MD_turn.1.cls = true := by decide +kernel
def M_CM_order : pM := (⟨"CornerMaps", "order", "(I)I"⟩, prog_1_method_29_code, 3, some .int)
theorem co_CM_order : CalOK M_CM_order 1 := ⟨g_at 736 (by decide +kernel) rfl, g_at 1 (by decide +kernel) rfl, by decide +kernel, by decide +kernel, by decide +kernel⟩
theorem pn_CM_order : plainName M_CM_order.1.cls = true := by decide +kernel
def M_MD_order : pM := (⟨"CornerMapsModel", "order", "(I)I"⟩, prog_12_method_82_code, 3, some .int)
theorem co_MD_order : CalOK M_MD_order 1 := ⟨g_at 1954 (by decide +kernel) rfl, g_at 13 (by decide +kernel) rfl, by decide +kernel, by decide +kernel, by decide +kernel⟩
theorem pn_MD_order : plainName M_MD_order.1.cls = true := by decide +kernel
def M_CM_same : pM := (⟨"CornerMaps", "same", "(II)I"⟩, prog_1_method_30_code, 3, some .int)
theorem co_CM_same : CalOK M_CM_same 2 := ⟨g_at 743 (by decide +kernel) rfl, g_at 1 (by decide +kernel) rfl, by decide +kernel, by decide +kernel, by decide +kernel⟩
theorem pn_CM_same : plainName M_CM_same.1.cls = true := by decide +kernel
def M_MD_same : pM := (⟨"CornerMapsModel", "same", "(II)I"⟩, prog_12_method_83_code, 3, some .int)
theorem co_MD_same : CalOK M_MD_same 2 := ⟨g_at 1958 (by decide +kernel) rfl, g_at 13 (by decide +kernel) rfl, by decide +kernel, by decide +kernel, by decide +kernel⟩
theorem pn_MD_same : plainName M_MD_same.1.cls = true := by decide +kernel
def M_CM_commute : pM := (⟨"CornerMaps", "commute", "(II)I"⟩, prog_1_method_31_code, 3, some .int)
theorem co_CM_commute : CalOK M_CM_commute 2 := ⟨g_at 747 (by decide +kernel) rfl, g_at 1 (by decide +kernel) rfl, by decide +kernel, by decide +kernel, by decide +kernel⟩
theorem pn_CM_commute : plainName M_CM_commute.1.cls = true := by decide +kernel
def M_MD_commute : pM := (⟨"CornerMapsModel", "commute", "(II)I"⟩, prog_12_method_85_code, 5, some .int)
theorem co_MD_commute : CalOK M_MD_commute 2 := ⟨g_at 1966 (by decide +kernel) rfl, g_at 13 (by decide +kernel) rfl, by decide +kernel, by decide +kernel, by decide +kernel⟩
theorem pn_MD_commute : plainName M_MD_commute.1.cls = true := by decide +kernel
def M_CM_undoes : pM := (⟨"CornerMaps", "undoes", "(II)I"⟩, prog_1_method_32_code, 3, some .int)
theorem co_CM_undoes : CalOK M_CM_undoes 2 := ⟨g_at 755 (by decide +kernel) rfl, g_at 1 (by decide +kernel) rfl, by decide +kernel, by decide +kernel, by decide +kernel⟩
theorem pn_CM_undoes : plainName M_CM_undoes.1.cls = true := by decide +kernel
def M_MD_undoes : pM := (⟨"CornerMapsModel", "undoes", "(II)I"⟩, prog_12_method_86_code, 3, some .int)
theorem co_MD_undoes : CalOK M_MD_undoes 2 := ⟨g_at 1970 (by decide +kernel) rfl, g_at 13 (by decide +kernel) rfl, by decide +kernel, by decide +kernel, by decide +kernel⟩
theorem pn_MD_undoes : plainName M_MD_undoes.1.cls = true := by decide +kernel
def M_CM_stays : pM := (⟨"CornerMaps", "stays", "(II)I"⟩, prog_1_method_33_code, 3, some .int)
theorem co_CM_stays : CalOK M_CM_stays 2 := ⟨g_at 763 (by decide +kernel) rfl, g_at 1 (by decide +kernel) rfl, by decide +kernel, by decide +kernel, by decide +kernel⟩
theorem pn_CM_stays : plainName M_CM_stays.1.cls = true := by decide +kernel
def M_MD_stays : pM := (⟨"CornerMapsModel", "stays", "(II)I"⟩, prog_12_method_88_code, 3, some .int)
theorem co_MD_stays : CalOK M_MD_stays 2 := ⟨g_at 1974 (by decide +kernel) rfl, g_at 13 (by decide +kernel) rfl, by decide +kernel, by decide +kernel, by decide +kernel⟩
theorem pn_MD_stays : plainName M_MD_stays.1.cls = true := by decide +kernel
def M_CM_points : pM := (⟨"CornerMaps", "points", "(II)I"⟩, prog_1_method_34_code, 5, some .int)
theorem co_CM_points : CalOK M_CM_points 2 := ⟨g_at 771 (by decide +kernel) rfl, g_at 1 (by decide +kernel) rfl, by decide +kernel, by decide +kernel, by decide +kernel⟩
theorem pn_CM_points : plainName M_CM_points.1.cls = true := by decide +kernel
def M_MD_points : pM := (⟨"CornerMapsModel", "points", "(II)I"⟩, prog_12_method_89_code, 8, some .int)
theorem co_MD_points : CalOK M_MD_points 2 := ⟨g_at 1982 (by decide +kernel) rfl, g_at 13 (by decide +kernel) rfl, by decide +kernel, by decide +kernel, by decide +kernel⟩
theorem pn_MD_points : plainName M_MD_points.1.cls = true := by decide +kernel
def M_CM_join : pM := (⟨"CornerMaps", "join", "(III)J"⟩, prog_1_method_35_code, 4, some .long)
theorem co_CM_join : CalOK M_CM_join 3 := ⟨g_at 780 (by decide +kernel) rfl, g_at 1 (by decide +kernel) rfl, by decide +kernel, by decide +kernel, by decide +kernel⟩
theorem pn_CM_join : plainName M_CM_join.1.cls = true := by decide +kernel
def M_MD_join : pM := (⟨"CornerMapsModel", "join", "(III)J"⟩, prog_12_method_93_code, 4, some .long)
theorem co_MD_join : CalOK M_MD_join 3 := ⟨g_at 1986 (by decide +kernel) rfl, g_at 13 (by decide +kernel) rfl, by decide +kernel, by decide +kernel, by decide +kernel⟩
theorem pn_MD_join : plainName M_MD_join.1.cls = true := by decide +kernel
def M_CM_inLine : pM := (⟨"CornerMaps", "inLine", "(III)I"⟩, prog_1_method_36_code, 4, some .int)
theorem co_CM_inLine : CalOK M_CM_inLine 3 := ⟨g_at 788 (by decide +kernel) rfl, g_at 1 (by decide +kernel) rfl, by decide +kernel, by decide +kernel, by decide +kernel⟩
theorem pn_CM_inLine : plainName M_CM_inLine.1.cls = true := by decide +kernel
def M_MD_inLine : pM := (⟨"CornerMapsModel", "inLine", "(III)I"⟩, prog_12_method_95_code, 4, some .int)
theorem co_MD_inLine : CalOK M_MD_inLine 3 := ⟨g_at 2001 (by decide +kernel) rfl, g_at 13 (by decide +kernel) rfl, by decide +kernel, by decide +kernel, by decide +kernel⟩
theorem pn_MD_inLine : plainName M_MD_inLine.1.cls = true := by decide +kernel
def M_CM_meet : pM := (⟨"CornerMaps", "meet", "(IIIII)J"⟩, prog_1_method_37_code, 7, some .long)
theorem co_CM_meet : CalOK M_CM_meet 5 := ⟨g_at 797 (by decide +kernel) rfl, g_at 1 (by decide +kernel) rfl, by decide +kernel, by decide +kernel, by decide +kernel⟩
theorem pn_CM_meet : plainName M_CM_meet.1.cls = true := by decide +kernel
def M_CM_arePoints : pM := (⟨"CornerMaps", "arePoints", "(IIII)Z"⟩, prog_1_method_83_code, 5, some .boolean)
theorem co_CM_arePoints : CalOK M_CM_arePoints 4 := ⟨g_at 801 (by decide +kernel) rfl, g_at 1 (by decide +kernel) rfl, by decide +kernel, by decide +kernel, by decide +kernel⟩
theorem pn_CM_arePoints : plainName M_CM_arePoints.1.cls = true := by decide +kernel
def M_MD_meet : pM := (⟨"CornerMapsModel", "meet", "(IIIII)J"⟩, prog_12_method_96_code, 12, some .long)
theorem co_MD_meet : CalOK M_MD_meet 5 := ⟨g_at 2009 (by decide +kernel) rfl, g_at 13 (by decide +kernel) rfl, by decide +kernel, by decide +kernel, by decide +kernel⟩
theorem pn_MD_meet : plainName M_MD_meet.1.cls = true := by decide +kernel
def M_CM_share : pM := (⟨"CornerMaps", "share", "(IIIII)J"⟩, prog_1_method_38_code, 11, some .long)
theorem co_CM_share : CalOK M_CM_share 5 := ⟨g_at 805 (by decide +kernel) rfl, g_at 1 (by decide +kernel) rfl, by decide +kernel, by decide +kernel, by decide +kernel⟩
theorem pn_CM_share : plainName M_CM_share.1.cls = true := by decide +kernel
def M_MD_share : pM := (⟨"CornerMapsModel", "share", "(IIIII)J"⟩, prog_12_method_100_code, 12, some .long)
theorem co_MD_share : CalOK M_MD_share 5 := ⟨g_at 2013 (by decide +kernel) rfl, g_at 13 (by decide +kernel) rfl, by decide +kernel, by decide +kernel, by decide +kernel⟩
theorem pn_MD_share : plainName M_MD_share.1.cls = true := by decide +kernel
def M_CM_fourth : pM := (⟨"CornerMaps", "fourth", "(IIII)J"⟩, prog_1_method_39_code, 11, some .long)
theorem co_CM_fourth : CalOK M_CM_fourth 4 := ⟨g_at 831 (by decide +kernel) rfl, g_at 1 (by decide +kernel) rfl, by decide +kernel, by decide +kernel, by decide +kernel⟩
theorem pn_CM_fourth : plainName M_CM_fourth.1.cls = true := by decide +kernel
def M_MD_fourth : pM := (⟨"CornerMapsModel", "fourth", "(IIII)J"⟩, prog_12_method_101_code, 9, some .long)
theorem co_MD_fourth : CalOK M_MD_fourth 4 := ⟨g_at 2029 (by decide +kernel) rfl, g_at 13 (by decide +kernel) rfl, by decide +kernel, by decide +kernel, by decide +kernel⟩
theorem pn_MD_fourth : plainName M_MD_fourth.1.cls = true := by decide +kernel
def M_CM_track : pM := (⟨"CornerMaps", "track", "(IIII)J"⟩, prog_1_method_40_code, 5, some .long)
theorem co_CM_track : CalOK M_CM_track 4 := ⟨g_at 836 (by decide +kernel) rfl, g_at 1 (by decide +kernel) rfl, by decide +kernel, by decide +kernel, by decide +kernel⟩
theorem pn_CM_track : plainName M_CM_track.1.cls = true := by decide +kernel
def M_MD_track : pM := (⟨"CornerMapsModel", "track", "(IIII)J"⟩, prog_12_method_105_code, 5, some .long)
theorem co_MD_track : CalOK M_MD_track 4 := ⟨g_at 2033 (by decide +kernel) rfl, g_at 13 (by decide +kernel) rfl, by decide +kernel, by decide +kernel, by decide +kernel⟩
theorem pn_MD_track : plainName M_MD_track.1.cls = true := by decide +kernel
def M_CM_cycle : pM := (⟨"CornerMaps", "cycle", "(II)I"⟩, prog_1_method_41_code, 4, some .int)
theorem co_CM_cycle : CalOK M_CM_cycle 2 := ⟨g_at 848 (by decide +kernel) rfl, g_at 1 (by decide +kernel) rfl, by decide +kernel, by decide +kernel, by decide +kernel⟩
theorem pn_CM_cycle : plainName M_CM_cycle.1.cls = true := by decide +kernel
def M_MD_cycle : pM := (⟨"CornerMapsModel", "cycle", "(II)I"⟩, prog_12_method_106_code, 4, some .int)
theorem co_MD_cycle : CalOK M_MD_cycle 2 := ⟨g_at 2045 (by decide +kernel) rfl, g_at 13 (by decide +kernel) rfl, by decide +kernel, by decide +kernel, by decide +kernel⟩
theorem pn_MD_cycle : plainName M_MD_cycle.1.cls = true := by decide +kernel
def M_CM_whole : pM := (⟨"CornerMaps", "whole", "(II)I"⟩, prog_1_method_42_code, 6, some .int)
theorem co_CM_whole : CalOK M_CM_whole 2 := ⟨g_at 852 (by decide +kernel) rfl, g_at 1 (by decide +kernel) rfl, by decide +kernel, by decide +kernel, by decide +kernel⟩
theorem pn_CM_whole : plainName M_CM_whole.1.cls = true := by decide +kernel
def M_MD_whole : pM := (⟨"CornerMapsModel", "whole", "(II)I"⟩, prog_12_method_108_code, 6, some .int)
theorem co_MD_whole : CalOK M_MD_whole 2 := ⟨g_at 2057 (by decide +kernel) rfl, g_at 13 (by decide +kernel) rfl, by decide +kernel, by decide +kernel, by decide +kernel⟩
theorem pn_MD_whole : plainName M_MD_whole.1.cls = true := by decide +kernel
def M_CM_inside : pM := (⟨"CornerMaps", "inside", "(II)I"⟩, prog_1_method_43_code, 4, some .int)
theorem co_CM_inside : CalOK M_CM_inside 2 := ⟨g_at 856 (by decide +kernel) rfl, g_at 1 (by decide +kernel) rfl, by decide +kernel, by decide +kernel, by decide +kernel⟩
theorem pn_CM_inside : plainName M_CM_inside.1.cls = true := by decide +kernel
def M_MD_inside : pM := (⟨"CornerMapsModel", "inside", "(II)I"⟩, prog_12_method_112_code, 14, some .int)
theorem co_MD_inside : CalOK M_MD_inside 2 := ⟨g_at 2061 (by decide +kernel) rfl, g_at 13 (by decide +kernel) rfl, by decide +kernel, by decide +kernel, by decide +kernel⟩
theorem pn_MD_inside : plainName M_MD_inside.1.cls = true := by decide +kernel
def M_CM_crossings : pM := (⟨"CornerMaps", "crossings", "(II)I"⟩, prog_1_method_44_code, 6, some .int)
theorem co_CM_crossings : CalOK M_CM_crossings 2 := ⟨g_at 875 (by decide +kernel) rfl, g_at 1 (by decide +kernel) rfl, by decide +kernel, by decide +kernel, by decide +kernel⟩
theorem pn_CM_crossings : plainName M_CM_crossings.1.cls = true := by decide +kernel
def M_MD_crossings : pM := (⟨"CornerMapsModel", "crossings", "(II)I"⟩, prog_12_method_116_code, 6, some .int)
theorem co_MD_crossings : CalOK M_MD_crossings 2 := ⟨g_at 2078 (by decide +kernel) rfl, g_at 13 (by decide +kernel) rfl, by decide +kernel, by decide +kernel, by decide +kernel⟩
theorem pn_MD_crossings : plainName M_MD_crossings.1.cls = true := by decide +kernel
def M_CM_diagonal : pM := (⟨"CornerMaps", "diagonal", "(III)J"⟩, prog_1_method_45_code, 4, some .long)
theorem co_CM_diagonal : CalOK M_CM_diagonal 3 := ⟨g_at 887 (by decide +kernel) rfl, g_at 1 (by decide +kernel) rfl, by decide +kernel, by decide +kernel, by decide +kernel⟩
theorem pn_CM_diagonal : plainName M_CM_diagonal.1.cls = true := by decide +kernel
def M_MD_diagonal : pM := (⟨"CornerMapsModel", "diagonal", "(III)J"⟩, prog_12_method_119_code, 4, some .long)
theorem co_MD_diagonal : CalOK M_MD_diagonal 3 := ⟨g_at 2094 (by decide +kernel) rfl, g_at 13 (by decide +kernel) rfl, by decide +kernel, by decide +kernel, by decide +kernel⟩
theorem pn_MD_diagonal : plainName M_MD_diagonal.1.cls = true := by decide +kernel
def M_CM_parallel : pM := (⟨"CornerMaps", "parallel", "(II)I"⟩, prog_1_method_46_code, 5, some .int)
theorem co_CM_parallel : CalOK M_CM_parallel 2 := ⟨g_at 897 (by decide +kernel) rfl, g_at 1 (by decide +kernel) rfl, by decide +kernel, by decide +kernel, by decide +kernel⟩
theorem pn_CM_parallel : plainName M_CM_parallel.1.cls = true := by decide +kernel
def M_MD_parallel : pM := (⟨"CornerMapsModel", "parallel", "(II)I"⟩, prog_12_method_120_code, 4, some .int)
theorem co_MD_parallel : CalOK M_MD_parallel 2 := ⟨g_at 2106 (by decide +kernel) rfl, g_at 13 (by decide +kernel) rfl, by decide +kernel, by decide +kernel, by decide +kernel⟩
theorem pn_MD_parallel : plainName M_MD_parallel.1.cls = true := by decide +kernel
def M_CM_shapeBy : pM := (⟨"CornerMaps", "shapeBy", "(II)I"⟩, prog_1_method_47_code, 3, some .int)
theorem co_CM_shapeBy : CalOK M_CM_shapeBy 2 := ⟨g_at 901 (by decide +kernel) rfl, g_at 1 (by decide +kernel) rfl, by decide +kernel, by decide +kernel, by decide +kernel⟩
theorem pn_CM_shapeBy : plainName M_CM_shapeBy.1.cls = true := by decide +kernel
def M_MD_shapeBy : pM := (⟨"CornerMapsModel", "shapeBy", "(II)I"⟩, prog_12_method_122_code, 8, some .int)
theorem co_MD_shapeBy : CalOK M_MD_shapeBy 2 := ⟨g_at 2110 (by decide +kernel) rfl, g_at 13 (by decide +kernel) rfl, by decide +kernel, by decide +kernel, by decide +kernel⟩
theorem pn_MD_shapeBy : plainName M_MD_shapeBy.1.cls = true := by decide +kernel
def M_CM_symmetries : pM := (⟨"CornerMaps", "symmetries", "(II)I"⟩, prog_1_method_48_code, 5, some .int)
theorem co_CM_symmetries : CalOK M_CM_symmetries 2 := ⟨g_at 914 (by decide +kernel) rfl, g_at 1 (by decide +kernel) rfl, by decide +kernel, by decide +kernel, by decide +kernel⟩
theorem pn_CM_symmetries : plainName M_CM_symmetries.1.cls = true := by decide +kernel
def M_MD_symmetries : pM := (⟨"CornerMapsModel", "symmetries", "(II)I"⟩, prog_12_method_125_code, 5, some .int)
theorem co_MD_symmetries : CalOK M_MD_symmetries 2 := ⟨g_at 2122 (by decide +kernel) rfl, g_at 13 (by decide +kernel) rfl, by decide +kernel, by decide +kernel, by decide +kernel⟩
theorem pn_MD_symmetries : plainName M_MD_symmetries.1.cls = true := by decide +kernel
def M_CM_symmetry : pM := (⟨"CornerMaps", "symmetry", "(II)I"⟩, prog_1_method_49_code, 3, some .int)
theorem co_CM_symmetry : CalOK M_CM_symmetry 2 := ⟨g_at 921 (by decide +kernel) rfl, g_at 1 (by decide +kernel) rfl, by decide +kernel, by decide +kernel, by decide +kernel⟩
theorem pn_CM_symmetry : plainName M_CM_symmetry.1.cls = true := by decide +kernel
def M_MD_symmetry : pM := (⟨"CornerMapsModel", "symmetry", "(II)I"⟩, prog_12_method_126_code, 3, some .int)
theorem co_MD_symmetry : CalOK M_MD_symmetry 2 := ⟨g_at 2130 (by decide +kernel) rfl, g_at 13 (by decide +kernel) rfl, by decide +kernel, by decide +kernel, by decide +kernel⟩
theorem pn_MD_symmetry : plainName M_MD_symmetry.1.cls = true := by decide +kernel
def M_CM_word : pM := (⟨"CornerMaps", "word", "(II)I"⟩, prog_1_method_50_code, 4, some .int)
theorem co_CM_word : CalOK M_CM_word 2 := ⟨g_at 925 (by decide +kernel) rfl, g_at 1 (by decide +kernel) rfl, by decide +kernel, by decide +kernel, by decide +kernel⟩
theorem pn_CM_word : plainName M_CM_word.1.cls = true := by decide +kernel
def M_MD_word : pM := (⟨"CornerMapsModel", "word", "(II)I"⟩, prog_12_method_130_code, 3, some .int)
theorem co_MD_word : CalOK M_MD_word 2 := ⟨g_at 2134 (by decide +kernel) rfl, g_at 13 (by decide +kernel) rfl, by decide +kernel, by decide +kernel, by decide +kernel⟩
theorem pn_MD_word : plainName M_MD_word.1.cls = true := by decide +kernel
def M_CM_generated : pM := (⟨"CornerMaps", "generated", "(I)I"⟩, prog_1_method_51_code, 5, some .int)
theorem co_CM_generated : CalOK M_CM_generated 1 := ⟨g_at 962 (by decide +kernel) rfl, g_at 1 (by decide +kernel) rfl, by decide +kernel, by decide +kernel, by decide +kernel⟩
theorem pn_CM_generated : plainName M_CM_generated.1.cls = true := by decide +kernel
def M_MD_generated : pM := (⟨"CornerMapsModel", "generated", "(I)I"⟩, prog_12_method_132_code, 4, some .int)
theorem co_MD_generated : CalOK M_MD_generated 1 := ⟨g_at 2150 (by decide +kernel) rfl, g_at 13 (by decide +kernel) rfl, by decide +kernel, by decide +kernel, by decide +kernel⟩
theorem pn_MD_generated : plainName M_MD_generated.1.cls = true := by decide +kernel
def M_CM_leads : pM := (⟨"CornerMaps", "leads", "(III)I"⟩, prog_1_method_52_code, 5, some .int)
theorem co_CM_leads : CalOK M_CM_leads 3 := ⟨g_at 974 (by decide +kernel) rfl, g_at 1 (by decide +kernel) rfl, by decide +kernel, by decide +kernel, by decide +kernel⟩
theorem pn_CM_leads : plainName M_CM_leads.1.cls = true := by decide +kernel
def M_MD_leads : pM := (⟨"CornerMapsModel", "leads", "(III)I"⟩, prog_12_method_107_code, 5, some .int)
theorem co_MD_leads : CalOK M_MD_leads 3 := ⟨g_at 2053 (by decide +kernel) rfl, g_at 13 (by decide +kernel) rfl, by decide +kernel, by decide +kernel, by decide +kernel⟩
theorem pn_MD_leads : plainName M_MD_leads.1.cls = true := by decide +kernel
def M_CM_pull : pM := (⟨"CornerMaps", "pull", "(IIIII)J"⟩, prog_1_method_53_code, 6, some .long)
theorem co_CM_pull : CalOK M_CM_pull 5 := ⟨g_at 978 (by decide +kernel) rfl, g_at 1 (by decide +kernel) rfl, by decide +kernel, by decide +kernel, by decide +kernel⟩
theorem pn_CM_pull : plainName M_CM_pull.1.cls = true := by decide +kernel
def M_MD_pull : pM := (⟨"CornerMapsModel", "pull", "(IIIII)J"⟩, prog_12_method_136_code, 6, some .long)
theorem co_MD_pull : CalOK M_MD_pull 5 := ⟨g_at 2168 (by decide +kernel) rfl, g_at 13 (by decide +kernel) rfl, by decide +kernel, by decide +kernel, by decide +kernel⟩
theorem pn_MD_pull : plainName M_MD_pull.1.cls = true := by decide +kernel
def M_CM_keepsLine : pM := (⟨"CornerMaps", "keepsLine", "(IIII)I"⟩, prog_1_method_54_code, 5, some .int)
theorem co_CM_keepsLine : CalOK M_CM_keepsLine 4 := ⟨g_at 982 (by decide +kernel) rfl, g_at 1 (by decide +kernel) rfl, by decide +kernel, by decide +kernel, by decide +kernel⟩
theorem pn_CM_keepsLine : plainName M_CM_keepsLine.1.cls = true := by decide +kernel
def M_MD_keepsLine : pM := (⟨"CornerMapsModel", "keepsLine", "(IIII)I"⟩, prog_12_method_137_code, 5, some .int)
theorem co_MD_keepsLine : CalOK M_MD_keepsLine 4 := ⟨g_at 2176 (by decide +kernel) rfl, g_at 13 (by decide +kernel) rfl, by decide +kernel, by decide +kernel, by decide +kernel⟩
theorem pn_MD_keepsLine : plainName M_MD_keepsLine.1.cls = true := by decide +kernel
def M_CM_side : pM := (⟨"CornerMaps", "side", "(III)J"⟩, prog_1_method_55_code, 5, some .long)
theorem co_CM_side : CalOK M_CM_side 3 := ⟨g_at 986 (by decide +kernel) rfl, g_at 1 (by decide +kernel) rfl, by decide +kernel, by decide +kernel, by decide +kernel⟩
theorem pn_CM_side : plainName M_CM_side.1.cls = true := by decide +kernel
def M_MD_side : pM := (⟨"CornerMapsModel", "side", "(III)J"⟩, prog_12_method_138_code, 4, some .long)
theorem co_MD_side : CalOK M_MD_side 3 := ⟨g_at 2180 (by decide +kernel) rfl, g_at 13 (by decide +kernel) rfl, by decide +kernel, by decide +kernel, by decide +kernel⟩
theorem pn_MD_side : plainName M_MD_side.1.cls = true := by decide +kernel
def M_CM_turnOf : pM := (⟨"CornerMaps", "turnOf", "(III)I"⟩, prog_1_method_56_code, 4, some .int)
theorem co_CM_turnOf : CalOK M_CM_turnOf 3 := ⟨g_at 993 (by decide +kernel) rfl, g_at 1 (by decide +kernel) rfl, by decide +kernel, by decide +kernel, by decide +kernel⟩
theorem pn_CM_turnOf : plainName M_CM_turnOf.1.cls = true := by decide +kernel
def M_CM_isFar : pM := (⟨"CornerMaps", "isFar", "(I)Z"⟩, prog_1_method_84_code, 2, some .boolean)
theorem co_CM_isFar : CalOK M_CM_isFar 1 := ⟨g_at 997 (by decide +kernel) rfl, g_at 1 (by decide +kernel) rfl, by decide +kernel, by decide +kernel, by decide +kernel⟩
theorem pn_CM_isFar : plainName M_CM_isFar.1.cls = true := by decide +kernel
def M_MD_turnOf : pM := (⟨"CornerMapsModel", "turnOf", "(III)I"⟩, prog_12_method_140_code, 4, some .int)
theorem co_MD_turnOf : CalOK M_MD_turnOf 3 := ⟨g_at 2184 (by decide +kernel) rfl, g_at 13 (by decide +kernel) rfl, by decide +kernel, by decide +kernel, by decide +kernel⟩
theorem pn_MD_turnOf : plainName M_MD_turnOf.1.cls = true := by decide +kernel
def M_CM_gap : pM := (⟨"CornerMaps", "gap", "(III)J"⟩, prog_1_method_57_code, 12, some .long)
theorem co_CM_gap : CalOK M_CM_gap 3 := ⟨g_at 1002 (by decide +kernel) rfl, g_at 1 (by decide +kernel) rfl, by decide +kernel, by decide +kernel, by decide +kernel⟩
theorem pn_CM_gap : plainName M_CM_gap.1.cls = true := by decide +kernel
def M_MD_gap : pM := (⟨"CornerMapsModel", "gap", "(III)J"⟩, prog_12_method_141_code, 10, some .long)
theorem co_MD_gap : CalOK M_MD_gap 3 := ⟨g_at 2192 (by decide +kernel) rfl, g_at 13 (by decide +kernel) rfl, by decide +kernel, by decide +kernel, by decide +kernel⟩
theorem pn_MD_gap : plainName M_MD_gap.1.cls = true := by decide +kernel
def M_CM_middle : pM := (⟨"CornerMaps", "middle", "(III)J"⟩, prog_1_method_58_code, 10, some .long)
theorem co_CM_middle : CalOK M_CM_middle 3 := ⟨g_at 1007 (by decide +kernel) rfl, g_at 1 (by decide +kernel) rfl, by decide +kernel, by decide +kernel, by decide +kernel⟩
theorem pn_CM_middle : plainName M_CM_middle.1.cls = true := by decide +kernel
def M_MD_middle : pM := (⟨"CornerMapsModel", "middle", "(III)J"⟩, prog_12_method_143_code, 8, some .long)
theorem co_MD_middle : CalOK M_MD_middle 3 := ⟨g_at 2200 (by decide +kernel) rfl, g_at 13 (by decide +kernel) rfl, by decide +kernel, by decide +kernel, by decide +kernel⟩
theorem pn_MD_middle : plainName M_MD_middle.1.cls = true := by decide +kernel
def M_CM_partner : pM := (⟨"CornerMaps", "partner", "(I)I"⟩, prog_1_method_59_code, 3, some .int)
theorem co_CM_partner : CalOK M_CM_partner 1 := ⟨g_at 1012 (by decide +kernel) rfl, g_at 1 (by decide +kernel) rfl, by decide +kernel, by decide +kernel, by decide +kernel⟩
theorem pn_CM_partner : plainName M_CM_partner.1.cls = true := by decide +kernel
def M_MD_partner : pM := (⟨"CornerMapsModel", "partner", "(I)I"⟩, prog_12_method_145_code, 3, some .int)
theorem co_MD_partner : CalOK M_MD_partner 1 := ⟨g_at 2209 (by decide +kernel) rfl, g_at 13 (by decide +kernel) rfl, by decide +kernel, by decide +kernel, by decide +kernel⟩
theorem pn_MD_partner : plainName M_MD_partner.1.cls = true := by decide +kernel
def M_CM_cornerBy : pM := (⟨"CornerMaps", "cornerBy", "(IIII)J"⟩, prog_1_method_60_code, 5, some .long)
theorem co_CM_cornerBy : CalOK M_CM_cornerBy 4 := ⟨g_at 1016 (by decide +kernel) rfl, g_at 1 (by decide +kernel) rfl, by decide +kernel, by decide +kernel, by decide +kernel⟩
theorem pn_CM_cornerBy : plainName M_CM_cornerBy.1.cls = true := by decide +kernel
def M_MD_cornerBy : pM := (⟨"CornerMapsModel", "cornerBy", "(IIII)J"⟩, prog_12_method_152_code, 5, some .long)
theorem co_MD_cornerBy : CalOK M_MD_cornerBy 4 := ⟨g_at 2239 (by decide +kernel) rfl, g_at 13 (by decide +kernel) rfl, by decide +kernel, by decide +kernel, by decide +kernel⟩
theorem pn_MD_cornerBy : plainName M_MD_cornerBy.1.cls = true := by decide +kernel
def M_CM_scale : pM := (⟨"CornerMaps", "scale", "(II)J"⟩, prog_1_method_61_code, 4, some .long)
theorem co_CM_scale : CalOK M_CM_scale 2 := ⟨g_at 1020 (by decide +kernel) rfl, g_at 1 (by decide +kernel) rfl, by decide +kernel, by decide +kernel, by decide +kernel⟩
theorem pn_CM_scale : plainName M_CM_scale.1.cls = true := by decide +kernel
def M_MD_scale : pM := (⟨"CornerMapsModel", "scale", "(II)J"⟩, prog_12_method_144_code, 3, some .long)
theorem co_MD_scale : CalOK M_MD_scale 2 := ⟨g_at 2205 (by decide +kernel) rfl, g_at 13 (by decide +kernel) rfl, by decide +kernel, by decide +kernel, by decide +kernel⟩
theorem pn_MD_scale : plainName M_MD_scale.1.cls = true := by decide +kernel
def M_CM_likeness : pM := (⟨"CornerMaps", "likeness", "(III)I"⟩, prog_1_method_62_code, 8, some .int)
theorem co_CM_likeness : CalOK M_CM_likeness 3 := ⟨g_at 1024 (by decide +kernel) rfl, g_at 1 (by decide +kernel) rfl, by decide +kernel, by decide +kernel, by decide +kernel⟩
theorem pn_CM_likeness : plainName M_CM_likeness.1.cls = true := by decide +kernel
def M_MD_likeness : pM := (⟨"CornerMapsModel", "likeness", "(III)I"⟩, prog_12_method_146_code, 8, some .int)
theorem co_MD_likeness : CalOK M_MD_likeness 3 := ⟨g_at 2213 (by decide +kernel) rfl, g_at 13 (by decide +kernel) rfl, by decide +kernel, by decide +kernel, by decide +kernel⟩
theorem pn_MD_likeness : plainName M_MD_likeness.1.cls = true := by decide +kernel
def M_CM_hits : pM := (⟨"CornerMaps", "hits", "(III)I"⟩, prog_1_method_63_code, 4, some .int)
theorem co_CM_hits : CalOK M_CM_hits 3 := ⟨g_at 1028 (by decide +kernel) rfl, g_at 1 (by decide +kernel) rfl, by decide +kernel, by decide +kernel, by decide +kernel⟩
theorem pn_CM_hits : plainName M_CM_hits.1.cls = true := by decide +kernel
def M_MD_hits : pM := (⟨"CornerMapsModel", "hits", "(III)I"⟩, prog_12_method_154_code, 4, some .int)
theorem co_MD_hits : CalOK M_MD_hits 3 := ⟨g_at 2247 (by decide +kernel) rfl, g_at 13 (by decide +kernel) rfl, by decide +kernel, by decide +kernel, by decide +kernel⟩
theorem pn_MD_hits : plainName M_MD_hits.1.cls = true := by decide +kernel
def M_CM_goesTo : pM := (⟨"CornerMaps", "goesTo", "(II)I"⟩, prog_1_method_64_code, 5, some .int)
theorem co_CM_goesTo : CalOK M_CM_goesTo 2 := ⟨g_at 1041 (by decide +kernel) rfl, g_at 1 (by decide +kernel) rfl, by decide +kernel, by decide +kernel, by decide +kernel⟩
theorem pn_CM_goesTo : plainName M_CM_goesTo.1.cls = true := by decide +kernel
def M_MD_goesTo : pM := (⟨"CornerMapsModel", "goesTo", "(II)I"⟩, prog_12_method_155_code, 5, some .int)
theorem co_MD_goesTo : CalOK M_MD_goesTo 2 := ⟨g_at 2255 (by decide +kernel) rfl, g_at 13 (by decide +kernel) rfl, by decide +kernel, by decide +kernel, by decide +kernel⟩
theorem pn_MD_goesTo : plainName M_MD_goesTo.1.cls = true := by decide +kernel
def M_CM_farthest : pM := (⟨"CornerMaps", "farthest", "(I)J"⟩, prog_1_method_65_code, 5, some .long)
theorem co_CM_farthest : CalOK M_CM_farthest 1 := ⟨g_at 1045 (by decide +kernel) rfl, g_at 1 (by decide +kernel) rfl, by decide +kernel, by decide +kernel, by decide +kernel⟩
theorem pn_CM_farthest : plainName M_CM_farthest.1.cls = true := by decide +kernel
def M_MD_farthest : pM := (⟨"CornerMapsModel", "farthest", "(I)J"⟩, prog_12_method_156_code, 6, some .long)
theorem co_MD_farthest : CalOK M_MD_farthest 1 := ⟨g_at 2259 (by decide +kernel) rfl, g_at 13 (by decide +kernel) rfl, by decide +kernel, by decide +kernel, by decide +kernel⟩
theorem pn_MD_farthest : plainName M_MD_farthest.1.cls = true := by decide +kernel
def M_CM_biggest : pM := (⟨"CornerMaps", "biggest", "(I)I"⟩, prog_1_method_66_code, 8, some .int)
theorem co_CM_biggest : CalOK M_CM_biggest 1 := ⟨g_at 1050 (by decide +kernel) rfl, g_at 1 (by decide +kernel) rfl, by decide +kernel, by decide +kernel, by decide +kernel⟩
theorem pn_CM_biggest : plainName M_CM_biggest.1.cls = true := by decide +kernel
def M_CM_isPart : pM := (⟨"CornerMaps", "isPart", "(I)Z"⟩, prog_1_method_74_code, 1, some .boolean)
theorem co_CM_isPart : CalOK M_CM_isPart 1 := ⟨g_at 808 (by decide +kernel) rfl, g_at 1 (by decide +kernel) rfl, by decide +kernel, by decide +kernel, by decide +kernel⟩
theorem pn_CM_isPart : plainName M_CM_isPart.1.cls = true := by decide +kernel
def M_MD_biggest : pM := (⟨"CornerMapsModel", "biggest", "(I)I"⟩, prog_12_method_147_code, 5, some .int)
theorem co_MD_biggest : CalOK M_MD_biggest 1 := ⟨g_at 2217 (by decide +kernel) rfl, g_at 13 (by decide +kernel) rfl, by decide +kernel, by decide +kernel, by decide +kernel⟩
theorem pn_MD_biggest : plainName M_MD_biggest.1.cls = true := by decide +kernel
def M_CM_kinds : pM := (⟨"CornerMaps", "kinds", "(I)I"⟩, prog_1_method_67_code, 4, some .int)
theorem co_CM_kinds : CalOK M_CM_kinds 1 := ⟨g_at 1054 (by decide +kernel) rfl, g_at 1 (by decide +kernel) rfl, by decide +kernel, by decide +kernel, by decide +kernel⟩
theorem pn_CM_kinds : plainName M_CM_kinds.1.cls = true := by decide +kernel
def M_CM_isKind : pM := (⟨"CornerMaps", "isKind", "(I)Z"⟩, prog_1_method_77_code, 1, some .boolean)
theorem co_CM_isKind : CalOK M_CM_isKind 1 := ⟨g_at 917 (by decide +kernel) rfl, g_at 1 (by decide +kernel) rfl, by decide +kernel, by decide +kernel, by decide +kernel⟩
theorem pn_CM_isKind : plainName M_CM_isKind.1.cls = true := by decide +kernel
def M_MD_kinds : pM := (⟨"CornerMapsModel", "kinds", "(I)I"⟩, prog_12_method_148_code, 4, some .int)
theorem co_MD_kinds : CalOK M_MD_kinds 1 := ⟨g_at 2225 (by decide +kernel) rfl, g_at 13 (by decide +kernel) rfl, by decide +kernel, by decide +kernel, by decide +kernel⟩
theorem pn_MD_kinds : plainName M_MD_kinds.1.cls = true := by decide +kernel
def M_CM_pairs : pM := (⟨"CornerMaps", "pairs", "(I)I"⟩, prog_1_method_68_code, 5, some .int)
theorem co_CM_pairs : CalOK M_CM_pairs 1 := ⟨g_at 1058 (by decide +kernel) rfl, g_at 1 (by decide +kernel) rfl, by decide +kernel, by decide +kernel, by decide +kernel⟩
theorem pn_CM_pairs : plainName M_CM_pairs.1.cls = true := by decide +kernel
def M_CM_isThird : pM := (⟨"CornerMaps", "isThird", "(I)Z"⟩, prog_1_method_75_code, 1, some .boolean)
theorem co_CM_isThird : CalOK M_CM_isThird 1 := ⟨g_at 668 (by decide +kernel) rfl, g_at 1 (by decide +kernel) rfl, by decide +kernel, by decide +kernel, by decide +kernel⟩
theorem pn_CM_isThird : plainName M_CM_isThird.1.cls = true := by decide +kernel
def M_MD_pairs : pM := (⟨"CornerMapsModel", "pairs", "(I)I"⟩, prog_12_method_149_code, 5, some .int)
theorem co_MD_pairs : CalOK M_MD_pairs 1 := ⟨g_at 2229 (by decide +kernel) rfl, g_at 13 (by decide +kernel) rfl, by decide +kernel, by decide +kernel, by decide +kernel⟩
theorem pn_MD_pairs : plainName M_MD_pairs.1.cls = true := by decide +kernel
def M_CM_spell : pM := (⟨"CornerMaps", "spell", "(II)I"⟩, prog_1_method_69_code, 4, some .int)
theorem co_CM_spell : CalOK M_CM_spell 2 := ⟨g_at 1066 (by decide +kernel) rfl, g_at 1 (by decide +kernel) rfl, by decide +kernel, by decide +kernel, by decide +kernel⟩
theorem pn_CM_spell : plainName M_CM_spell.1.cls = true := by decide +kernel
def M_MD_spell : pM := (⟨"CornerMapsModel", "spell", "(II)I"⟩, prog_12_method_134_code, 4, some .int)
theorem co_MD_spell : CalOK M_MD_spell 2 := ⟨g_at 2158 (by decide +kernel) rfl, g_at 13 (by decide +kernel) rfl, by decide +kernel, by decide +kernel, by decide +kernel⟩
theorem pn_MD_spell : plainName M_MD_spell.1.cls = true := by decide +kernel
def M_CM_kept : pM := (⟨"CornerMaps", "kept", "(I)I"⟩, prog_1_method_70_code, 4, some .int)
theorem co_CM_kept : CalOK M_CM_kept 1 := ⟨g_at 1419 (by decide +kernel) rfl, g_at 1 (by decide +kernel) rfl, by decide +kernel, by decide +kernel, by decide +kernel⟩
theorem pn_CM_kept : plainName M_CM_kept.1.cls = true := by decide +kernel
def M_MD_kept : pM := (⟨"CornerMapsModel", "kept", "(I)I"⟩, prog_12_method_78_code, 6, some .int)
theorem co_MD_kept : CalOK M_MD_kept 1 := ⟨g_at 1933 (by decide +kernel) rfl, g_at 13 (by decide +kernel) rfl, by decide +kernel, by decide +kernel, by decide +kernel⟩
theorem pn_MD_kept : plainName M_MD_kept.1.cls = true := by decide +kernel
def M_CM_find : pM := (⟨"CornerMaps", "find", "(II)I"⟩, prog_1_method_71_code, 4, some .int)
theorem co_CM_find : CalOK M_CM_find 2 := ⟨g_at 1423 (by decide +kernel) rfl, g_at 1 (by decide +kernel) rfl, by decide +kernel, by decide +kernel, by decide +kernel⟩
theorem pn_CM_find : plainName M_CM_find.1.cls = true := by decide +kernel
def M_MD_find : pM := (⟨"CornerMapsModel", "find", "(II)I"⟩, prog_12_method_157_code, 4, some .int)
theorem co_MD_find : CalOK M_MD_find 2 := ⟨g_at 2263 (by decide +kernel) rfl, g_at 13 (by decide +kernel) rfl, by decide +kernel, by decide +kernel, by decide +kernel⟩
theorem pn_MD_find : plainName M_MD_find.1.cls = true := by decide +kernel
def M_CM_size : pM := (⟨"CornerMaps", "size", "(I)I"⟩, prog_1_method_72_code, 2, some .int)
theorem co_CM_size : CalOK M_CM_size 1 := ⟨g_at 1427 (by decide +kernel) rfl, g_at 1 (by decide +kernel) rfl, by decide +kernel, by decide +kernel, by decide +kernel⟩
theorem pn_CM_size : plainName M_CM_size.1.cls = true := by decide +kernel
def M_MD_size : pM := (⟨"CornerMapsModel", "size", "(I)I"⟩, prog_12_method_158_code, 2, some .int)
theorem co_MD_size : CalOK M_MD_size 1 := ⟨g_at 2267 (by decide +kernel) rfl, g_at 13 (by decide +kernel) rfl, by decide +kernel, by decide +kernel, by decide +kernel⟩
theorem pn_MD_size : plainName M_MD_size.1.cls = true := by decide +kernel
def M_CM_count : pM := (⟨"CornerMaps", "count", "(I)I"⟩, prog_1_method_73_code, 2, some .int)
theorem co_CM_count : CalOK M_CM_count 1 := ⟨g_at 1431 (by decide +kernel) rfl, g_at 1 (by decide +kernel) rfl, by decide +kernel, by decide +kernel, by decide +kernel⟩
theorem pn_CM_count : plainName M_CM_count.1.cls = true := by decide +kernel
def M_MD_count : pM := (⟨"CornerMapsModel", "count", "(I)I"⟩, prog_12_method_161_code, 2, some .int)
theorem co_MD_count : CalOK M_MD_count 1 := ⟨g_at 2271 (by decide +kernel) rfl, g_at 13 (by decide +kernel) rfl, by decide +kernel, by decide +kernel, by decide +kernel⟩
theorem pn_MD_count : plainName M_MD_count.1.cls = true := by decide +kernel
theorem im_Plane_hasQuad : Cond.instanceMethod M_Plane_hasQuad.1 ∈ gtbl := g_at 505 (by decide +kernel) rfl
theorem se_Plane_hasQuad : Cond.selects M_Plane_hasQuad.1.cls M_Plane_hasQuad.1 M_Plane_hasQuad.1 ∈ gtbl := g_at 506 (by decide +kernel) rfl
theorem im_MD_isQuad : Cond.instanceMethod M_MD_isQuad.1 ∈ gtbl := g_at 1758 (by decide +kernel) rfl
theorem se_MD_isQuad : Cond.selects M_MD_isQuad.1.cls M_MD_isQuad.1 M_MD_isQuad.1 ∈ gtbl := g_sel 63 (by decide +kernel) rfl
theorem im_Plane_hasMap : Cond.instanceMethod M_Plane_hasMap.1 ∈ gtbl := g_at 569 (by decide +kernel) rfl
theorem se_Plane_hasMap : Cond.selects M_Plane_hasMap.1.cls M_Plane_hasMap.1 M_Plane_hasMap.1 ∈ gtbl := g_at 570 (by decide +kernel) rfl
theorem im_MD_isMap : Cond.instanceMethod M_MD_isMap.1 ∈ gtbl := g_at 1766 (by decide +kernel) rfl
theorem se_MD_isMap : Cond.selects M_MD_isMap.1.cls M_MD_isMap.1 M_MD_isMap.1 ∈ gtbl := g_sel 64 (by decide +kernel) rfl
theorem im_Plane_hasPoint : Cond.instanceMethod M_Plane_hasPoint.1 ∈ gtbl := g_at 697 (by decide +kernel) rfl
theorem se_Plane_hasPoint : Cond.selects M_Plane_hasPoint.1.cls M_Plane_hasPoint.1 M_Plane_hasPoint.1 ∈ gtbl := g_at 698 (by decide +kernel) rfl
theorem im_MD_isPoint : Cond.instanceMethod M_MD_isPoint.1 ∈ gtbl := g_at 1777 (by decide +kernel) rfl
theorem se_MD_isPoint : Cond.selects M_MD_isPoint.1.cls M_MD_isPoint.1 M_MD_isPoint.1 ∈ gtbl := g_sel 65 (by decide +kernel) rfl
theorem im_CM_arePoints : Cond.instanceMethod M_CM_arePoints.1 ∈ gtbl := g_at 800 (by decide +kernel) rfl
theorem se_CM_arePoints : Cond.selects M_CM_arePoints.1.cls M_CM_arePoints.1 M_CM_arePoints.1 ∈ gtbl := g_sel 23 (by decide +kernel) rfl
theorem im_CM_isFar : Cond.instanceMethod M_CM_isFar.1 ∈ gtbl := g_at 996 (by decide +kernel) rfl
theorem se_CM_isFar : Cond.selects M_CM_isFar.1.cls M_CM_isFar.1 M_CM_isFar.1 ∈ gtbl := g_sel 39 (by decide +kernel) rfl
theorem L_Plane_30 : Cond.fieldLink "CornerMaps$Plane" 30 "CornerMaps$Plane" "quadCount" "I" ∈ gtbl := g_at 76 (by decide +kernel) rfl
theorem L_Plane_33 : Cond.fieldLink "CornerMaps$Plane" 33 "CornerMaps$Plane" "mapCount" "I" ∈ gtbl := g_at 80 (by decide +kernel) rfl
theorem L_Plane_36 : Cond.fieldLink "CornerMaps$Plane" 36 "CornerMaps$Plane" "pointCount" "I" ∈ gtbl := g_at 84 (by decide +kernel) rfl
theorem L_MD_204 : Cond.fieldLink "CornerMapsModel" 204 "CornerMapsModel" "quads" "I" ∈ gtbl := g_at 1502 (by decide +kernel) rfl
theorem L_CM_127 : Cond.methodLink "CornerMaps" 127 ⟨"CornerMaps$Plane", "hasQuad", "(I)Z"⟩ ∈ gtbl := g_at 504 (by decide +kernel) rfl
theorem L_MD_74 : Cond.fieldLink "CornerMapsModel" 74 "CornerMapsModel" "thrown" "I" ∈ gtbl := g_at 1497 (by decide +kernel) rfl
theorem L_MD_238 : Cond.methodLink "CornerMapsModel" 238 ⟨"CornerMapsModel", "isQuad", "(I)Z"⟩ ∈ gtbl := g_at 1756 (by decide +kernel) rfl
theorem L_CM_151 : Cond.methodLink "CornerMaps" 151 ⟨"CornerMaps$Plane", "hasMap", "(I)Z"⟩ ∈ gtbl := g_at 568 (by decide +kernel) rfl
theorem L_MD_241 : Cond.methodLink "CornerMapsModel" 241 ⟨"CornerMapsModel", "isMap", "(I)Z"⟩ ∈ gtbl := g_at 1764 (by decide +kernel) rfl
theorem L_CM_160 : Cond.methodLink "CornerMaps" 160 ⟨"CornerMaps$Plane", "hasPoint", "(I)Z"⟩ ∈ gtbl := g_at 696 (by decide +kernel) rfl
theorem L_MD_247 : Cond.methodLink "CornerMapsModel" 247 ⟨"CornerMapsModel", "isPoint", "(I)Z"⟩ ∈ gtbl := g_at 1775 (by decide +kernel) rfl
theorem L_MD_77 : Cond.fieldLink "CornerMapsModel" 77 "CornerMapsModel" "taped" "I" ∈ gtbl := g_at 1499 (by decide +kernel) rfl
theorem L_CM_107 : Cond.fieldLinkNest "CornerMaps" 107 "CornerMaps$Tape" "length" "I" "CornerMaps" ∈ ntbl := nt_at 113 (by decide +kernel) rfl
theorem L_CM_124 : Cond.fieldLinkNest "CornerMaps" 124 "CornerMaps$Reader" "faultPlace" "I" "CornerMaps" ∈ ntbl := nt_at 159 (by decide +kernel) rfl
theorem L_CM_121 : Cond.fieldLinkNest "CornerMaps" 121 "CornerMaps$Reader" "fault" "I" "CornerMaps" ∈ ntbl := nt_at 157 (by decide +kernel) rfl
theorem L_MD_201 : Cond.fieldLink "CornerMapsModel" 201 "CornerMapsModel" "lastFault" "I" ∈ gtbl := g_at 1520 (by decide +kernel) rfl
theorem L_CM_183 : Cond.constant "CornerMaps" 183 (-100000 : Int32) ∈ gtbl := g_at 534 (by decide +kernel) rfl
theorem L_MD_265 : Cond.constant "CornerMapsModel" 265 (-100000 : Int32) ∈ gtbl := g_at 1807 (by decide +kernel) rfl
theorem L_CM_260 : Cond.fieldLinkNest "CornerMaps" 260 "CornerMaps$Past" "count" "I" "CornerMaps" ∈ ntbl := nt_at 201 (by decide +kernel) rfl
theorem L_CM_270 : Cond.constantLong "CornerMaps" 270 (-9223372036854775808 : Int64) ∈ gtbl := g_at 669 (by decide +kernel) rfl
theorem L_MD_307 : Cond.constantLong "CornerMapsModel" 307 (-9223372036854775808 : Int64) ∈ gtbl := g_at 1893 (by decide +kernel) rfl
theorem L_CM_330 : Cond.methodLink "CornerMaps" 330 ⟨"CornerMaps", "arePoints", "(IIII)Z"⟩ ∈ gtbl := g_at 798 (by decide +kernel) rfl
theorem L_CM_225 : Cond.fieldLinkNest "CornerMaps" 225 "CornerMaps$Plane" "mapCount" "I" "CornerMaps" ∈ ntbl := nt_at 83 (by decide +kernel) rfl
theorem L_CM_394 : Cond.fieldLinkNest "CornerMaps" 394 "CornerMaps$Pairs" "count" "I" "CornerMaps" ∈ ntbl := nt_at 224 (by decide +kernel) rfl
theorem L_MD_432 : Cond.fieldLink "CornerMapsModel" 432 "CornerMapsModel" "unlikeMany" "I" ∈ gtbl := g_at 1532 (by decide +kernel) rfl
theorem L_CM_398 : Cond.methodLink "CornerMaps" 398 ⟨"CornerMaps", "isFar", "(I)Z"⟩ ∈ gtbl := g_at 994 (by decide +kernel) rfl
theorem F_Plane_hasQuad_0 : Jvm.Free.DS.Facts prog_6_method_3_code 0 [(.iload_n 1, 1), (.ifCond .lt (15), 3), (.iload_n 1, 1), (.aload_n 0, 1), (.getfield 30, 3), (.if_icmp .ge (7), 3)] := Jvm.Free.DS.facts 0 _ (by decide +kernel) (by decide +kernel)
theorem d_Plane_hasQuad_0 : decode prog_6_method_3_code 0 = .ok (.iload_n 1, 1) := F_Plane_hasQuad_0.1
theorem d_Plane_hasQuad_1 : decode prog_6_method_3_code 1 = .ok (.ifCond .lt (15), 3) := F_Plane_hasQuad_0.2.1
theorem d_Plane_hasQuad_4 : decode prog_6_method_3_code 4 = .ok (.iload_n 1, 1) := F_Plane_hasQuad_0.2.2.1
theorem d_Plane_hasQuad_5 : decode prog_6_method_3_code 5 = .ok (.aload_n 0, 1) := F_Plane_hasQuad_0.2.2.2.1
theorem d_Plane_hasQuad_6 : decode prog_6_method_3_code 6 = .ok (.getfield 30, 3) := F_Plane_hasQuad_0.2.2.2.2.1
theorem d_Plane_hasQuad_9 : decode prog_6_method_3_code 9 = .ok (.if_icmp .ge (7), 3) := F_Plane_hasQuad_0.2.2.2.2.2.1
theorem F_Plane_hasQuad_16 : Jvm.Free.DS.Facts prog_6_method_3_code 16 [(.iconst 0, 1), (.ireturn, 1)] := Jvm.Free.DS.facts 16 _ (by decide +kernel) (by decide +kernel)
theorem d_Plane_hasQuad_16 : decode prog_6_method_3_code 16 = .ok (.iconst 0, 1) := F_Plane_hasQuad_16.1
theorem d_Plane_hasQuad_17 : decode prog_6_method_3_code 17 = .ok (.ireturn, 1) := F_Plane_hasQuad_16.2.1
theorem F_Plane_hasMap_0 : Jvm.Free.DS.Facts prog_6_method_4_code 0 [(.iload_n 1, 1), (.ifCond .lt (15), 3), (.iload_n 1, 1), (.aload_n 0, 1), (.getfield 33, 3), (.if_icmp .ge (7), 3)] := Jvm.Free.DS.facts 0 _ (by decide +kernel) (by decide +kernel)
theorem d_Plane_hasMap_0 : decode prog_6_method_4_code 0 = .ok (.iload_n 1, 1) := F_Plane_hasMap_0.1
theorem d_Plane_hasMap_1 : decode prog_6_method_4_code 1 = .ok (.ifCond .lt (15), 3) := F_Plane_hasMap_0.2.1
theorem d_Plane_hasMap_4 : decode prog_6_method_4_code 4 = .ok (.iload_n 1, 1) := F_Plane_hasMap_0.2.2.1
theorem d_Plane_hasMap_5 : decode prog_6_method_4_code 5 = .ok (.aload_n 0, 1) := F_Plane_hasMap_0.2.2.2.1
theorem d_Plane_hasMap_6 : decode prog_6_method_4_code 6 = .ok (.getfield 33, 3) := F_Plane_hasMap_0.2.2.2.2.1
theorem d_Plane_hasMap_9 : decode prog_6_method_4_code 9 = .ok (.if_icmp .ge (7), 3) := F_Plane_hasMap_0.2.2.2.2.2.1
theorem F_Plane_hasMap_16 : Jvm.Free.DS.Facts prog_6_method_4_code 16 [(.iconst 0, 1), (.ireturn, 1)] := Jvm.Free.DS.facts 16 _ (by decide +kernel) (by decide +kernel)
theorem d_Plane_hasMap_16 : decode prog_6_method_4_code 16 = .ok (.iconst 0, 1) := F_Plane_hasMap_16.1
theorem d_Plane_hasMap_17 : decode prog_6_method_4_code 17 = .ok (.ireturn, 1) := F_Plane_hasMap_16.2.1
theorem F_Plane_hasPoint_0 : Jvm.Free.DS.Facts prog_6_method_5_code 0 [(.iload_n 1, 1), (.ifCond .lt (15), 3), (.iload_n 1, 1), (.aload_n 0, 1), (.getfield 36, 3), (.if_icmp .ge (7), 3)] := Jvm.Free.DS.facts 0 _ (by decide +kernel) (by decide +kernel)
theorem d_Plane_hasPoint_0 : decode prog_6_method_5_code 0 = .ok (.iload_n 1, 1) := F_Plane_hasPoint_0.1
theorem d_Plane_hasPoint_1 : decode prog_6_method_5_code 1 = .ok (.ifCond .lt (15), 3) := F_Plane_hasPoint_0.2.1
theorem d_Plane_hasPoint_4 : decode prog_6_method_5_code 4 = .ok (.iload_n 1, 1) := F_Plane_hasPoint_0.2.2.1
theorem d_Plane_hasPoint_5 : decode prog_6_method_5_code 5 = .ok (.aload_n 0, 1) := F_Plane_hasPoint_0.2.2.2.1
theorem d_Plane_hasPoint_6 : decode prog_6_method_5_code 6 = .ok (.getfield 36, 3) := F_Plane_hasPoint_0.2.2.2.2.1
theorem d_Plane_hasPoint_9 : decode prog_6_method_5_code 9 = .ok (.if_icmp .ge (7), 3) := F_Plane_hasPoint_0.2.2.2.2.2.1
theorem F_Plane_hasPoint_16 : Jvm.Free.DS.Facts prog_6_method_5_code 16 [(.iconst 0, 1), (.ireturn, 1)] := Jvm.Free.DS.facts 16 _ (by decide +kernel) (by decide +kernel)
theorem d_Plane_hasPoint_16 : decode prog_6_method_5_code 16 = .ok (.iconst 0, 1) := F_Plane_hasPoint_16.1
theorem d_Plane_hasPoint_17 : decode prog_6_method_5_code 17 = .ok (.ireturn, 1) := F_Plane_hasPoint_16.2.1
theorem F_MD_isQuad_0 : Jvm.Free.DS.Facts prog_12_method_37_code 0 [(.iload_n 1, 1), (.ifCond .lt (15), 3), (.iload_n 1, 1), (.aload_n 0, 1), (.getfield 204, 3), (.if_icmp .ge (7), 3)] := Jvm.Free.DS.facts 0 _ (by decide +kernel) (by decide +kernel)
theorem d_MD_isQuad_0 : decode prog_12_method_37_code 0 = .ok (.iload_n 1, 1) := F_MD_isQuad_0.1
theorem d_MD_isQuad_1 : decode prog_12_method_37_code 1 = .ok (.ifCond .lt (15), 3) := F_MD_isQuad_0.2.1
theorem d_MD_isQuad_4 : decode prog_12_method_37_code 4 = .ok (.iload_n 1, 1) := F_MD_isQuad_0.2.2.1
theorem d_MD_isQuad_5 : decode prog_12_method_37_code 5 = .ok (.aload_n 0, 1) := F_MD_isQuad_0.2.2.2.1
theorem d_MD_isQuad_6 : decode prog_12_method_37_code 6 = .ok (.getfield 204, 3) := F_MD_isQuad_0.2.2.2.2.1
theorem d_MD_isQuad_9 : decode prog_12_method_37_code 9 = .ok (.if_icmp .ge (7), 3) := F_MD_isQuad_0.2.2.2.2.2.1
theorem F_MD_isQuad_16 : Jvm.Free.DS.Facts prog_12_method_37_code 16 [(.iconst 0, 1), (.ireturn, 1)] := Jvm.Free.DS.facts 16 _ (by decide +kernel) (by decide +kernel)
theorem d_MD_isQuad_16 : decode prog_12_method_37_code 16 = .ok (.iconst 0, 1) := F_MD_isQuad_16.1
theorem d_MD_isQuad_17 : decode prog_12_method_37_code 17 = .ok (.ireturn, 1) := F_MD_isQuad_16.2.1
theorem F_MD_isMap_0 : Jvm.Free.DS.Facts prog_12_method_38_code 0 [(.iload_n 1, 1), (.ifCond .lt (21), 3), (.iload_n 1, 1), (.i2l, 1), (.aload_n 0, 1), (.getfield 21, 3), (.sipush (168), 3), (.laload, 1), (.lcmp, 1), (.ifCond .ge (7), 3)] := Jvm.Free.DS.facts 0 _ (by decide +kernel) (by decide +kernel)
theorem d_MD_isMap_0 : decode prog_12_method_38_code 0 = .ok (.iload_n 1, 1) := F_MD_isMap_0.1
theorem d_MD_isMap_1 : decode prog_12_method_38_code 1 = .ok (.ifCond .lt (21), 3) := F_MD_isMap_0.2.1
theorem d_MD_isMap_4 : decode prog_12_method_38_code 4 = .ok (.iload_n 1, 1) := F_MD_isMap_0.2.2.1
theorem d_MD_isMap_5 : decode prog_12_method_38_code 5 = .ok (.i2l, 1) := F_MD_isMap_0.2.2.2.1
theorem d_MD_isMap_6 : decode prog_12_method_38_code 6 = .ok (.aload_n 0, 1) := F_MD_isMap_0.2.2.2.2.1
theorem d_MD_isMap_7 : decode prog_12_method_38_code 7 = .ok (.getfield 21, 3) := F_MD_isMap_0.2.2.2.2.2.1
theorem d_MD_isMap_10 : decode prog_12_method_38_code 10 = .ok (.sipush (168), 3) := F_MD_isMap_0.2.2.2.2.2.2.1
theorem d_MD_isMap_13 : decode prog_12_method_38_code 13 = .ok (.laload, 1) := F_MD_isMap_0.2.2.2.2.2.2.2.1
theorem d_MD_isMap_14 : decode prog_12_method_38_code 14 = .ok (.lcmp, 1) := F_MD_isMap_0.2.2.2.2.2.2.2.2.1
theorem d_MD_isMap_15 : decode prog_12_method_38_code 15 = .ok (.ifCond .ge (7), 3) := F_MD_isMap_0.2.2.2.2.2.2.2.2.2.1
theorem F_MD_isMap_22 : Jvm.Free.DS.Facts prog_12_method_38_code 22 [(.iconst 0, 1), (.ireturn, 1)] := Jvm.Free.DS.facts 22 _ (by decide +kernel) (by decide +kernel)
theorem d_MD_isMap_22 : decode prog_12_method_38_code 22 = .ok (.iconst 0, 1) := F_MD_isMap_22.1
theorem d_MD_isMap_23 : decode prog_12_method_38_code 23 = .ok (.ireturn, 1) := F_MD_isMap_22.2.1
theorem F_MD_isPoint_0 : Jvm.Free.DS.Facts prog_12_method_39_code 0 [(.iload_n 1, 1), (.ifCond .lt (21), 3), (.iload_n 1, 1), (.i2l, 1), (.aload_n 0, 1), (.getfield 21, 3), (.sipush (169), 3), (.laload, 1), (.lcmp, 1), (.ifCond .ge (7), 3)] := Jvm.Free.DS.facts 0 _ (by decide +kernel) (by decide +kernel)
theorem d_MD_isPoint_0 : decode prog_12_method_39_code 0 = .ok (.iload_n 1, 1) := F_MD_isPoint_0.1
theorem d_MD_isPoint_1 : decode prog_12_method_39_code 1 = .ok (.ifCond .lt (21), 3) := F_MD_isPoint_0.2.1
theorem d_MD_isPoint_4 : decode prog_12_method_39_code 4 = .ok (.iload_n 1, 1) := F_MD_isPoint_0.2.2.1
theorem d_MD_isPoint_5 : decode prog_12_method_39_code 5 = .ok (.i2l, 1) := F_MD_isPoint_0.2.2.2.1
theorem d_MD_isPoint_6 : decode prog_12_method_39_code 6 = .ok (.aload_n 0, 1) := F_MD_isPoint_0.2.2.2.2.1
theorem d_MD_isPoint_7 : decode prog_12_method_39_code 7 = .ok (.getfield 21, 3) := F_MD_isPoint_0.2.2.2.2.2.1
theorem d_MD_isPoint_10 : decode prog_12_method_39_code 10 = .ok (.sipush (169), 3) := F_MD_isPoint_0.2.2.2.2.2.2.1
theorem d_MD_isPoint_13 : decode prog_12_method_39_code 13 = .ok (.laload, 1) := F_MD_isPoint_0.2.2.2.2.2.2.2.1
theorem d_MD_isPoint_14 : decode prog_12_method_39_code 14 = .ok (.lcmp, 1) := F_MD_isPoint_0.2.2.2.2.2.2.2.2.1
theorem d_MD_isPoint_15 : decode prog_12_method_39_code 15 = .ok (.ifCond .ge (7), 3) := F_MD_isPoint_0.2.2.2.2.2.2.2.2.2.1
theorem F_MD_isPoint_22 : Jvm.Free.DS.Facts prog_12_method_39_code 22 [(.iconst 0, 1), (.ireturn, 1)] := Jvm.Free.DS.facts 22 _ (by decide +kernel) (by decide +kernel)
theorem d_MD_isPoint_22 : decode prog_12_method_39_code 22 = .ok (.iconst 0, 1) := F_MD_isPoint_22.1
theorem d_MD_isPoint_23 : decode prog_12_method_39_code 23 = .ok (.ireturn, 1) := F_MD_isPoint_22.2.1
theorem F_CM_corner_0 : Jvm.Free.DS.Facts prog_1_method_5_code 0 [(.aload_n 0, 1), (.getfield 12, 3), (.iload_n 1, 1), (.invokevirtual 127, 3), (.ifCond .eq (10), 3)] := Jvm.Free.DS.facts 0 _ (by decide +kernel) (by decide +kernel)
theorem d_CM_corner_0 : decode prog_1_method_5_code 0 = .ok (.aload_n 0, 1) := F_CM_corner_0.1
theorem d_CM_corner_1 : decode prog_1_method_5_code 1 = .ok (.getfield 12, 3) := F_CM_corner_0.2.1
theorem d_CM_corner_4 : decode prog_1_method_5_code 4 = .ok (.iload_n 1, 1) := F_CM_corner_0.2.2.1
theorem d_CM_corner_5 : decode prog_1_method_5_code 5 = .ok (.invokevirtual 127, 3) := F_CM_corner_0.2.2.2.1
theorem d_CM_corner_8 : decode prog_1_method_5_code 8 = .ok (.ifCond .eq (10), 3) := F_CM_corner_0.2.2.2.2.1
theorem F_CM_corner_18 : Jvm.Free.DS.Facts prog_1_method_5_code 18 [(.new 133, 3)] := Jvm.Free.DS.facts 18 _ (by decide +kernel) (by decide +kernel)
theorem d_CM_corner_18 : decode prog_1_method_5_code 18 = .ok (.new 133, 3) := F_CM_corner_18.1
theorem F_MD_corner_0 : Jvm.Free.DS.Facts prog_12_method_42_code 0 [(.aload_n 0, 1), (.iconst 0, 1), (.putfield 74, 3), (.aload_n 0, 1), (.iload_n 1, 1), (.invokevirtual 238, 3), (.ifCond .eq (12), 3)] := Jvm.Free.DS.facts 0 _ (by decide +kernel) (by decide +kernel)
theorem d_MD_corner_0 : decode prog_12_method_42_code 0 = .ok (.aload_n 0, 1) := F_MD_corner_0.1
theorem d_MD_corner_1 : decode prog_12_method_42_code 1 = .ok (.iconst 0, 1) := F_MD_corner_0.2.1
theorem d_MD_corner_2 : decode prog_12_method_42_code 2 = .ok (.putfield 74, 3) := F_MD_corner_0.2.2.1
theorem d_MD_corner_5 : decode prog_12_method_42_code 5 = .ok (.aload_n 0, 1) := F_MD_corner_0.2.2.2.1
theorem d_MD_corner_6 : decode prog_12_method_42_code 6 = .ok (.iload_n 1, 1) := F_MD_corner_0.2.2.2.2.1
theorem d_MD_corner_7 : decode prog_12_method_42_code 7 = .ok (.invokevirtual 238, 3) := F_MD_corner_0.2.2.2.2.2.1
theorem d_MD_corner_10 : decode prog_12_method_42_code 10 = .ok (.ifCond .eq (12), 3) := F_MD_corner_0.2.2.2.2.2.2.1
theorem F_MD_corner_22 : Jvm.Free.DS.Facts prog_12_method_42_code 22 [(.aload_n 0, 1), (.iconst 1, 1), (.putfield 74, 3)] := Jvm.Free.DS.facts 22 _ (by decide +kernel) (by decide +kernel)
theorem d_MD_corner_22 : decode prog_12_method_42_code 22 = .ok (.aload_n 0, 1) := F_MD_corner_22.1
theorem d_MD_corner_23 : decode prog_12_method_42_code 23 = .ok (.iconst 1, 1) := F_MD_corner_22.2.1
theorem d_MD_corner_24 : decode prog_12_method_42_code 24 = .ok (.putfield 74, 3) := F_MD_corner_22.2.2.1
theorem F_CM_map_0 : Jvm.Free.DS.Facts prog_1_method_6_code 0 [(.aload_n 0, 1), (.getfield 12, 3), (.iload_n 1, 1), (.invokevirtual 151, 3), (.ifCond .ne (11), 3), (.new 133, 3)] := Jvm.Free.DS.facts 0 _ (by decide +kernel) (by decide +kernel)
theorem d_CM_map_0 : decode prog_1_method_6_code 0 = .ok (.aload_n 0, 1) := F_CM_map_0.1
theorem d_CM_map_1 : decode prog_1_method_6_code 1 = .ok (.getfield 12, 3) := F_CM_map_0.2.1
theorem d_CM_map_4 : decode prog_1_method_6_code 4 = .ok (.iload_n 1, 1) := F_CM_map_0.2.2.1
theorem d_CM_map_5 : decode prog_1_method_6_code 5 = .ok (.invokevirtual 151, 3) := F_CM_map_0.2.2.2.1
theorem d_CM_map_8 : decode prog_1_method_6_code 8 = .ok (.ifCond .ne (11), 3) := F_CM_map_0.2.2.2.2.1
theorem d_CM_map_11 : decode prog_1_method_6_code 11 = .ok (.new 133, 3) := F_CM_map_0.2.2.2.2.2.1
theorem F_MD_map_0 : Jvm.Free.DS.Facts prog_12_method_43_code 0 [(.aload_n 0, 1), (.iconst 0, 1), (.putfield 74, 3), (.aload_n 0, 1), (.iload_n 1, 1), (.invokevirtual 241, 3), (.ifCond .ne (10), 3), (.aload_n 0, 1), (.iconst 1, 1), (.putfield 74, 3)] := Jvm.Free.DS.facts 0 _ (by decide +kernel) (by decide +kernel)
theorem d_MD_map_0 : decode prog_12_method_43_code 0 = .ok (.aload_n 0, 1) := F_MD_map_0.1
theorem d_MD_map_1 : decode prog_12_method_43_code 1 = .ok (.iconst 0, 1) := F_MD_map_0.2.1
theorem d_MD_map_2 : decode prog_12_method_43_code 2 = .ok (.putfield 74, 3) := F_MD_map_0.2.2.1
theorem d_MD_map_5 : decode prog_12_method_43_code 5 = .ok (.aload_n 0, 1) := F_MD_map_0.2.2.2.1
theorem d_MD_map_6 : decode prog_12_method_43_code 6 = .ok (.iload_n 1, 1) := F_MD_map_0.2.2.2.2.1
theorem d_MD_map_7 : decode prog_12_method_43_code 7 = .ok (.invokevirtual 241, 3) := F_MD_map_0.2.2.2.2.2.1
theorem d_MD_map_10 : decode prog_12_method_43_code 10 = .ok (.ifCond .ne (10), 3) := F_MD_map_0.2.2.2.2.2.2.1
theorem d_MD_map_13 : decode prog_12_method_43_code 13 = .ok (.aload_n 0, 1) := F_MD_map_0.2.2.2.2.2.2.2.1
theorem d_MD_map_14 : decode prog_12_method_43_code 14 = .ok (.iconst 1, 1) := F_MD_map_0.2.2.2.2.2.2.2.2.1
theorem d_MD_map_15 : decode prog_12_method_43_code 15 = .ok (.putfield 74, 3) := F_MD_map_0.2.2.2.2.2.2.2.2.2.1
theorem F_CM_point_0 : Jvm.Free.DS.Facts prog_1_method_7_code 0 [(.aload_n 0, 1), (.getfield 12, 3), (.iload_n 1, 1), (.invokevirtual 160, 3), (.ifCond .ne (11), 3), (.new 133, 3)] := Jvm.Free.DS.facts 0 _ (by decide +kernel) (by decide +kernel)
theorem d_CM_point_0 : decode prog_1_method_7_code 0 = .ok (.aload_n 0, 1) := F_CM_point_0.1
theorem d_CM_point_1 : decode prog_1_method_7_code 1 = .ok (.getfield 12, 3) := F_CM_point_0.2.1
theorem d_CM_point_4 : decode prog_1_method_7_code 4 = .ok (.iload_n 1, 1) := F_CM_point_0.2.2.1
theorem d_CM_point_5 : decode prog_1_method_7_code 5 = .ok (.invokevirtual 160, 3) := F_CM_point_0.2.2.2.1
theorem d_CM_point_8 : decode prog_1_method_7_code 8 = .ok (.ifCond .ne (11), 3) := F_CM_point_0.2.2.2.2.1
theorem d_CM_point_11 : decode prog_1_method_7_code 11 = .ok (.new 133, 3) := F_CM_point_0.2.2.2.2.2.1
theorem F_MD_point_0 : Jvm.Free.DS.Facts prog_12_method_44_code 0 [(.aload_n 0, 1), (.iconst 0, 1), (.putfield 74, 3), (.aload_n 0, 1), (.iload_n 1, 1), (.invokevirtual 247, 3), (.ifCond .ne (10), 3), (.aload_n 0, 1), (.iconst 1, 1), (.putfield 74, 3)] := Jvm.Free.DS.facts 0 _ (by decide +kernel) (by decide +kernel)
theorem d_MD_point_0 : decode prog_12_method_44_code 0 = .ok (.aload_n 0, 1) := F_MD_point_0.1
theorem d_MD_point_1 : decode prog_12_method_44_code 1 = .ok (.iconst 0, 1) := F_MD_point_0.2.1
theorem d_MD_point_2 : decode prog_12_method_44_code 2 = .ok (.putfield 74, 3) := F_MD_point_0.2.2.1
theorem d_MD_point_5 : decode prog_12_method_44_code 5 = .ok (.aload_n 0, 1) := F_MD_point_0.2.2.2.1
theorem d_MD_point_6 : decode prog_12_method_44_code 6 = .ok (.iload_n 1, 1) := F_MD_point_0.2.2.2.2.1
theorem d_MD_point_7 : decode prog_12_method_44_code 7 = .ok (.invokevirtual 247, 3) := F_MD_point_0.2.2.2.2.2.1
theorem d_MD_point_10 : decode prog_12_method_44_code 10 = .ok (.ifCond .ne (10), 3) := F_MD_point_0.2.2.2.2.2.2.1
theorem d_MD_point_13 : decode prog_12_method_44_code 13 = .ok (.aload_n 0, 1) := F_MD_point_0.2.2.2.2.2.2.2.1
theorem d_MD_point_14 : decode prog_12_method_44_code 14 = .ok (.iconst 1, 1) := F_MD_point_0.2.2.2.2.2.2.2.2.1
theorem d_MD_point_15 : decode prog_12_method_44_code 15 = .ok (.putfield 74, 3) := F_MD_point_0.2.2.2.2.2.2.2.2.2.1
theorem F_CM_feed_0 : Jvm.Free.DS.Facts prog_1_method_2_code 0 [(.aload_n 0, 1), (.getfield 24, 3), (.bipush (20), 2), (.invokevirtual 99, 3)] := Jvm.Free.DS.facts 0 _ (by decide +kernel) (by decide +kernel)
theorem d_CM_feed_0 : decode prog_1_method_2_code 0 = .ok (.aload_n 0, 1) := F_CM_feed_0.1
theorem d_CM_feed_1 : decode prog_1_method_2_code 1 = .ok (.getfield 24, 3) := F_CM_feed_0.2.1
theorem d_CM_feed_4 : decode prog_1_method_2_code 4 = .ok (.bipush (20), 2) := F_CM_feed_0.2.2.1
theorem d_CM_feed_6 : decode prog_1_method_2_code 6 = .ok (.invokevirtual 99, 3) := F_CM_feed_0.2.2.2.1
theorem F_MD_feed_0 : Jvm.Free.DS.Facts prog_12_method_3_code 0 [(.aload_n 0, 1), (.iconst 0, 1), (.putfield 74, 3), (.aload_n 0, 1), (.getfield 77, 3), (.sipush (880), 3), (.if_icmp .le (5), 3)] := Jvm.Free.DS.facts 0 _ (by decide +kernel) (by decide +kernel)
theorem d_MD_feed_0 : decode prog_12_method_3_code 0 = .ok (.aload_n 0, 1) := F_MD_feed_0.1
theorem d_MD_feed_1 : decode prog_12_method_3_code 1 = .ok (.iconst 0, 1) := F_MD_feed_0.2.1
theorem d_MD_feed_2 : decode prog_12_method_3_code 2 = .ok (.putfield 74, 3) := F_MD_feed_0.2.2.1
theorem d_MD_feed_5 : decode prog_12_method_3_code 5 = .ok (.aload_n 0, 1) := F_MD_feed_0.2.2.2.1
theorem d_MD_feed_6 : decode prog_12_method_3_code 6 = .ok (.getfield 77, 3) := F_MD_feed_0.2.2.2.2.1
theorem d_MD_feed_9 : decode prog_12_method_3_code 9 = .ok (.sipush (880), 3) := F_MD_feed_0.2.2.2.2.2.1
theorem d_MD_feed_12 : decode prog_12_method_3_code 12 = .ok (.if_icmp .le (5), 3) := F_MD_feed_0.2.2.2.2.2.2.1
theorem F_MD_feed_17 : Jvm.Free.DS.Facts prog_12_method_3_code 17 [(.iconst 0, 1), (.istore 6, 2), (.iload 6, 2), (.bipush (20), 2), (.if_icmp .ge (86), 3), (.iload 6, 2), (.iconst 4, 1), (.if_icmp .ge (7), 3), (.iload_n 1, 1), (.goto (39), 3)] := Jvm.Free.DS.facts 17 _ (by decide +kernel) (by decide +kernel)
theorem d_MD_feed_17 : decode prog_12_method_3_code 17 = .ok (.iconst 0, 1) := F_MD_feed_17.1
theorem d_MD_feed_18 : decode prog_12_method_3_code 18 = .ok (.istore 6, 2) := F_MD_feed_17.2.1
theorem d_MD_feed_20 : decode prog_12_method_3_code 20 = .ok (.iload 6, 2) := F_MD_feed_17.2.2.1
theorem d_MD_feed_22 : decode prog_12_method_3_code 22 = .ok (.bipush (20), 2) := F_MD_feed_17.2.2.2.1
theorem d_MD_feed_24 : decode prog_12_method_3_code 24 = .ok (.if_icmp .ge (86), 3) := F_MD_feed_17.2.2.2.2.1
theorem d_MD_feed_27 : decode prog_12_method_3_code 27 = .ok (.iload 6, 2) := F_MD_feed_17.2.2.2.2.2.1
theorem d_MD_feed_29 : decode prog_12_method_3_code 29 = .ok (.iconst 4, 1) := F_MD_feed_17.2.2.2.2.2.2.1
theorem d_MD_feed_30 : decode prog_12_method_3_code 30 = .ok (.if_icmp .ge (7), 3) := F_MD_feed_17.2.2.2.2.2.2.2.1
theorem d_MD_feed_33 : decode prog_12_method_3_code 33 = .ok (.iload_n 1, 1) := F_MD_feed_17.2.2.2.2.2.2.2.2.1
theorem d_MD_feed_34 : decode prog_12_method_3_code 34 = .ok (.goto (39), 3) := F_MD_feed_17.2.2.2.2.2.2.2.2.2.1
theorem F_MD_feed_73 : Jvm.Free.DS.Facts prog_12_method_3_code 73 [(.istore 7, 2), (.aload_n 0, 1), (.getfield 9, 3), (.aload_n 0, 1), (.getfield 77, 3), (.iload 6, 2), (.iadd, 1), (.iload 7, 2), (.bipush (24), 2), (.bipush (8), 2), (.iload 6, 2), (.iconst 4, 1), (.irem, 1)] := Jvm.Free.DS.facts 73 _ (by decide +kernel) (by decide +kernel)
theorem d_MD_feed_73 : decode prog_12_method_3_code 73 = .ok (.istore 7, 2) := F_MD_feed_73.1
theorem d_MD_feed_75 : decode prog_12_method_3_code 75 = .ok (.aload_n 0, 1) := F_MD_feed_73.2.1
theorem d_MD_feed_76 : decode prog_12_method_3_code 76 = .ok (.getfield 9, 3) := F_MD_feed_73.2.2.1
theorem d_MD_feed_79 : decode prog_12_method_3_code 79 = .ok (.aload_n 0, 1) := F_MD_feed_73.2.2.2.1
theorem d_MD_feed_80 : decode prog_12_method_3_code 80 = .ok (.getfield 77, 3) := F_MD_feed_73.2.2.2.2.1
theorem d_MD_feed_83 : decode prog_12_method_3_code 83 = .ok (.iload 6, 2) := F_MD_feed_73.2.2.2.2.2.1
theorem d_MD_feed_85 : decode prog_12_method_3_code 85 = .ok (.iadd, 1) := F_MD_feed_73.2.2.2.2.2.2.1
theorem d_MD_feed_86 : decode prog_12_method_3_code 86 = .ok (.iload 7, 2) := F_MD_feed_73.2.2.2.2.2.2.2.1
theorem d_MD_feed_88 : decode prog_12_method_3_code 88 = .ok (.bipush (24), 2) := F_MD_feed_73.2.2.2.2.2.2.2.2.1
theorem d_MD_feed_90 : decode prog_12_method_3_code 90 = .ok (.bipush (8), 2) := F_MD_feed_73.2.2.2.2.2.2.2.2.2.1
theorem d_MD_feed_92 : decode prog_12_method_3_code 92 = .ok (.iload 6, 2) := F_MD_feed_73.2.2.2.2.2.2.2.2.2.2.1
theorem d_MD_feed_94 : decode prog_12_method_3_code 94 = .ok (.iconst 4, 1) := F_MD_feed_73.2.2.2.2.2.2.2.2.2.2.2.1
theorem d_MD_feed_95 : decode prog_12_method_3_code 95 = .ok (.irem, 1) := F_MD_feed_73.2.2.2.2.2.2.2.2.2.2.2.2.1
theorem F_CM_text_0 : Jvm.Free.DS.Facts prog_1_method_3_code 0 [(.iload_n 1, 1), (.ifCond .lt (14), 3), (.iload_n 1, 1), (.aload_n 0, 1), (.getfield 24, 3), (.getfield 107, 3), (.if_icmp .le (6), 3), (.bipush (-2), 2), (.ireturn, 1), (.aload_n 0, 1), (.getfield 40, 3), (.iload_n 1, 1), (.aload_n 0, 1), (.getfield 18, 3), (.invokevirtual 111, 3)] := Jvm.Free.DS.facts 0 _ (by decide +kernel) (by decide +kernel)
theorem d_CM_text_0 : decode prog_1_method_3_code 0 = .ok (.iload_n 1, 1) := F_CM_text_0.1
theorem d_CM_text_1 : decode prog_1_method_3_code 1 = .ok (.ifCond .lt (14), 3) := F_CM_text_0.2.1
theorem d_CM_text_4 : decode prog_1_method_3_code 4 = .ok (.iload_n 1, 1) := F_CM_text_0.2.2.1
theorem d_CM_text_5 : decode prog_1_method_3_code 5 = .ok (.aload_n 0, 1) := F_CM_text_0.2.2.2.1
theorem d_CM_text_6 : decode prog_1_method_3_code 6 = .ok (.getfield 24, 3) := F_CM_text_0.2.2.2.2.1
theorem d_CM_text_9 : decode prog_1_method_3_code 9 = .ok (.getfield 107, 3) := F_CM_text_0.2.2.2.2.2.1
theorem d_CM_text_12 : decode prog_1_method_3_code 12 = .ok (.if_icmp .le (6), 3) := F_CM_text_0.2.2.2.2.2.2.1
theorem d_CM_text_15 : decode prog_1_method_3_code 15 = .ok (.bipush (-2), 2) := F_CM_text_0.2.2.2.2.2.2.2.1
theorem d_CM_text_17 : decode prog_1_method_3_code 17 = .ok (.ireturn, 1) := F_CM_text_0.2.2.2.2.2.2.2.2.1
theorem d_CM_text_18 : decode prog_1_method_3_code 18 = .ok (.aload_n 0, 1) := F_CM_text_0.2.2.2.2.2.2.2.2.2.1
theorem d_CM_text_19 : decode prog_1_method_3_code 19 = .ok (.getfield 40, 3) := F_CM_text_0.2.2.2.2.2.2.2.2.2.2.1
theorem d_CM_text_22 : decode prog_1_method_3_code 22 = .ok (.iload_n 1, 1) := F_CM_text_0.2.2.2.2.2.2.2.2.2.2.2.1
theorem d_CM_text_23 : decode prog_1_method_3_code 23 = .ok (.aload_n 0, 1) := F_CM_text_0.2.2.2.2.2.2.2.2.2.2.2.2.1
theorem d_CM_text_24 : decode prog_1_method_3_code 24 = .ok (.getfield 18, 3) := F_CM_text_0.2.2.2.2.2.2.2.2.2.2.2.2.2.1
theorem d_CM_text_27 : decode prog_1_method_3_code 27 = .ok (.invokevirtual 111, 3) := F_CM_text_0.2.2.2.2.2.2.2.2.2.2.2.2.2.2.1
theorem F_MD_text_0 : Jvm.Free.DS.Facts prog_12_method_21_code 0 [(.aload_n 0, 1), (.iconst 0, 1), (.putfield 74, 3), (.iload_n 1, 1), (.ifCond .lt (11), 3), (.iload_n 1, 1), (.aload_n 0, 1), (.getfield 77, 3), (.if_icmp .le (6), 3), (.bipush (-2), 2), (.ireturn, 1), (.iconst 0, 1), (.istore_n 2, 1), (.iload_n 2, 1), (.sipush (170), 3), (.if_icmp .ge (16), 3), (.aload_n 0, 1), (.getfield 25, 3), (.iload_n 2, 1), (.lconst 0, 1), (.lastore, 1)] := Jvm.Free.DS.facts 0 _ (by decide +kernel) (by decide +kernel)
theorem d_MD_text_0 : decode prog_12_method_21_code 0 = .ok (.aload_n 0, 1) := F_MD_text_0.1
theorem d_MD_text_1 : decode prog_12_method_21_code 1 = .ok (.iconst 0, 1) := F_MD_text_0.2.1
theorem d_MD_text_2 : decode prog_12_method_21_code 2 = .ok (.putfield 74, 3) := F_MD_text_0.2.2.1
theorem d_MD_text_5 : decode prog_12_method_21_code 5 = .ok (.iload_n 1, 1) := F_MD_text_0.2.2.2.1
theorem d_MD_text_6 : decode prog_12_method_21_code 6 = .ok (.ifCond .lt (11), 3) := F_MD_text_0.2.2.2.2.1
theorem d_MD_text_9 : decode prog_12_method_21_code 9 = .ok (.iload_n 1, 1) := F_MD_text_0.2.2.2.2.2.1
theorem d_MD_text_10 : decode prog_12_method_21_code 10 = .ok (.aload_n 0, 1) := F_MD_text_0.2.2.2.2.2.2.1
theorem d_MD_text_11 : decode prog_12_method_21_code 11 = .ok (.getfield 77, 3) := F_MD_text_0.2.2.2.2.2.2.2.1
theorem d_MD_text_14 : decode prog_12_method_21_code 14 = .ok (.if_icmp .le (6), 3) := F_MD_text_0.2.2.2.2.2.2.2.2.1
theorem d_MD_text_17 : decode prog_12_method_21_code 17 = .ok (.bipush (-2), 2) := F_MD_text_0.2.2.2.2.2.2.2.2.2.1
theorem d_MD_text_19 : decode prog_12_method_21_code 19 = .ok (.ireturn, 1) := F_MD_text_0.2.2.2.2.2.2.2.2.2.2.1
theorem d_MD_text_20 : decode prog_12_method_21_code 20 = .ok (.iconst 0, 1) := F_MD_text_0.2.2.2.2.2.2.2.2.2.2.2.1
theorem d_MD_text_21 : decode prog_12_method_21_code 21 = .ok (.istore_n 2, 1) := F_MD_text_0.2.2.2.2.2.2.2.2.2.2.2.2.1
theorem d_MD_text_22 : decode prog_12_method_21_code 22 = .ok (.iload_n 2, 1) := F_MD_text_0.2.2.2.2.2.2.2.2.2.2.2.2.2.1
theorem d_MD_text_23 : decode prog_12_method_21_code 23 = .ok (.sipush (170), 3) := F_MD_text_0.2.2.2.2.2.2.2.2.2.2.2.2.2.2.1
theorem d_MD_text_26 : decode prog_12_method_21_code 26 = .ok (.if_icmp .ge (16), 3) := F_MD_text_0.2.2.2.2.2.2.2.2.2.2.2.2.2.2.2.1
theorem d_MD_text_29 : decode prog_12_method_21_code 29 = .ok (.aload_n 0, 1) := F_MD_text_0.2.2.2.2.2.2.2.2.2.2.2.2.2.2.2.2.1
theorem d_MD_text_30 : decode prog_12_method_21_code 30 = .ok (.getfield 25, 3) := F_MD_text_0.2.2.2.2.2.2.2.2.2.2.2.2.2.2.2.2.2.1
theorem d_MD_text_33 : decode prog_12_method_21_code 33 = .ok (.iload_n 2, 1) := F_MD_text_0.2.2.2.2.2.2.2.2.2.2.2.2.2.2.2.2.2.2.1
theorem d_MD_text_34 : decode prog_12_method_21_code 34 = .ok (.lconst 0, 1) := F_MD_text_0.2.2.2.2.2.2.2.2.2.2.2.2.2.2.2.2.2.2.2.1
theorem d_MD_text_35 : decode prog_12_method_21_code 35 = .ok (.lastore, 1) := F_MD_text_0.2.2.2.2.2.2.2.2.2.2.2.2.2.2.2.2.2.2.2.2.1
theorem F_CM_fault_0 : Jvm.Free.DS.Facts prog_1_method_4_code 0 [(.iload_n 1, 1), (.ifCond .ne (11), 3), (.aload_n 0, 1), (.getfield 40, 3), (.getfield 121, 3), (.ireturn, 1), (.iload_n 1, 1), (.iconst 1, 1), (.if_icmp .ne (13), 3), (.aload_n 0, 1), (.getfield 40, 3), (.getfield 124, 3), (.goto (4), 3), (.iconst (-1), 1), (.ireturn, 1)] := Jvm.Free.DS.facts 0 _ (by decide +kernel) (by decide +kernel)
theorem d_CM_fault_0 : decode prog_1_method_4_code 0 = .ok (.iload_n 1, 1) := F_CM_fault_0.1
theorem d_CM_fault_1 : decode prog_1_method_4_code 1 = .ok (.ifCond .ne (11), 3) := F_CM_fault_0.2.1
theorem d_CM_fault_4 : decode prog_1_method_4_code 4 = .ok (.aload_n 0, 1) := F_CM_fault_0.2.2.1
theorem d_CM_fault_5 : decode prog_1_method_4_code 5 = .ok (.getfield 40, 3) := F_CM_fault_0.2.2.2.1
theorem d_CM_fault_8 : decode prog_1_method_4_code 8 = .ok (.getfield 121, 3) := F_CM_fault_0.2.2.2.2.1
theorem d_CM_fault_11 : decode prog_1_method_4_code 11 = .ok (.ireturn, 1) := F_CM_fault_0.2.2.2.2.2.1
theorem d_CM_fault_12 : decode prog_1_method_4_code 12 = .ok (.iload_n 1, 1) := F_CM_fault_0.2.2.2.2.2.2.1
theorem d_CM_fault_13 : decode prog_1_method_4_code 13 = .ok (.iconst 1, 1) := F_CM_fault_0.2.2.2.2.2.2.2.1
theorem d_CM_fault_14 : decode prog_1_method_4_code 14 = .ok (.if_icmp .ne (13), 3) := F_CM_fault_0.2.2.2.2.2.2.2.2.1
theorem d_CM_fault_17 : decode prog_1_method_4_code 17 = .ok (.aload_n 0, 1) := F_CM_fault_0.2.2.2.2.2.2.2.2.2.1
theorem d_CM_fault_18 : decode prog_1_method_4_code 18 = .ok (.getfield 40, 3) := F_CM_fault_0.2.2.2.2.2.2.2.2.2.2.1
theorem d_CM_fault_21 : decode prog_1_method_4_code 21 = .ok (.getfield 124, 3) := F_CM_fault_0.2.2.2.2.2.2.2.2.2.2.2.1
theorem d_CM_fault_24 : decode prog_1_method_4_code 24 = .ok (.goto (4), 3) := F_CM_fault_0.2.2.2.2.2.2.2.2.2.2.2.2.1
theorem d_CM_fault_27 : decode prog_1_method_4_code 27 = .ok (.iconst (-1), 1) := F_CM_fault_0.2.2.2.2.2.2.2.2.2.2.2.2.2.1
theorem d_CM_fault_28 : decode prog_1_method_4_code 28 = .ok (.ireturn, 1) := F_CM_fault_0.2.2.2.2.2.2.2.2.2.2.2.2.2.2.1
theorem F_MD_fault_0 : Jvm.Free.DS.Facts prog_12_method_22_code 0 [(.aload_n 0, 1), (.iconst 0, 1), (.putfield 74, 3), (.iload_n 1, 1), (.ifCond .ne (10), 3), (.aload_n 0, 1), (.getfield 201, 3), (.goto (16), 3), (.iload_n 1, 1), (.iconst 1, 1), (.if_icmp .ne (10), 3), (.aload_n 0, 1), (.getfield 37, 3), (.goto (4), 3), (.iconst (-1), 1), (.ireturn, 1)] := Jvm.Free.DS.facts 0 _ (by decide +kernel) (by decide +kernel)
theorem d_MD_fault_0 : decode prog_12_method_22_code 0 = .ok (.aload_n 0, 1) := F_MD_fault_0.1
theorem d_MD_fault_1 : decode prog_12_method_22_code 1 = .ok (.iconst 0, 1) := F_MD_fault_0.2.1
theorem d_MD_fault_2 : decode prog_12_method_22_code 2 = .ok (.putfield 74, 3) := F_MD_fault_0.2.2.1
theorem d_MD_fault_5 : decode prog_12_method_22_code 5 = .ok (.iload_n 1, 1) := F_MD_fault_0.2.2.2.1
theorem d_MD_fault_6 : decode prog_12_method_22_code 6 = .ok (.ifCond .ne (10), 3) := F_MD_fault_0.2.2.2.2.1
theorem d_MD_fault_9 : decode prog_12_method_22_code 9 = .ok (.aload_n 0, 1) := F_MD_fault_0.2.2.2.2.2.1
theorem d_MD_fault_10 : decode prog_12_method_22_code 10 = .ok (.getfield 201, 3) := F_MD_fault_0.2.2.2.2.2.2.1
theorem d_MD_fault_13 : decode prog_12_method_22_code 13 = .ok (.goto (16), 3) := F_MD_fault_0.2.2.2.2.2.2.2.1
theorem d_MD_fault_16 : decode prog_12_method_22_code 16 = .ok (.iload_n 1, 1) := F_MD_fault_0.2.2.2.2.2.2.2.2.1
theorem d_MD_fault_17 : decode prog_12_method_22_code 17 = .ok (.iconst 1, 1) := F_MD_fault_0.2.2.2.2.2.2.2.2.2.1
theorem d_MD_fault_18 : decode prog_12_method_22_code 18 = .ok (.if_icmp .ne (10), 3) := F_MD_fault_0.2.2.2.2.2.2.2.2.2.2.1
theorem d_MD_fault_21 : decode prog_12_method_22_code 21 = .ok (.aload_n 0, 1) := F_MD_fault_0.2.2.2.2.2.2.2.2.2.2.2.1
theorem d_MD_fault_22 : decode prog_12_method_22_code 22 = .ok (.getfield 37, 3) := F_MD_fault_0.2.2.2.2.2.2.2.2.2.2.2.2.1
theorem d_MD_fault_25 : decode prog_12_method_22_code 25 = .ok (.goto (4), 3) := F_MD_fault_0.2.2.2.2.2.2.2.2.2.2.2.2.2.1
theorem d_MD_fault_28 : decode prog_12_method_22_code 28 = .ok (.iconst (-1), 1) := F_MD_fault_0.2.2.2.2.2.2.2.2.2.2.2.2.2.2.1
theorem d_MD_fault_29 : decode prog_12_method_22_code 29 = .ok (.ireturn, 1) := F_MD_fault_0.2.2.2.2.2.2.2.2.2.2.2.2.2.2.2.1
theorem F_CM_shape_0 : Jvm.Free.DS.Facts prog_1_method_8_code 0 [(.aload_n 0, 1), (.getfield 12, 3), (.iload_n 1, 1), (.invokevirtual 127, 3), (.ifCond .eq (21), 3)] := Jvm.Free.DS.facts 0 _ (by decide +kernel) (by decide +kernel)
theorem d_CM_shape_0 : decode prog_1_method_8_code 0 = .ok (.aload_n 0, 1) := F_CM_shape_0.1
theorem d_CM_shape_1 : decode prog_1_method_8_code 1 = .ok (.getfield 12, 3) := F_CM_shape_0.2.1
theorem d_CM_shape_4 : decode prog_1_method_8_code 4 = .ok (.iload_n 1, 1) := F_CM_shape_0.2.2.1
theorem d_CM_shape_5 : decode prog_1_method_8_code 5 = .ok (.invokevirtual 127, 3) := F_CM_shape_0.2.2.2.1
theorem d_CM_shape_8 : decode prog_1_method_8_code 8 = .ok (.ifCond .eq (21), 3) := F_CM_shape_0.2.2.2.2.1
theorem F_CM_shape_29 : Jvm.Free.DS.Facts prog_1_method_8_code 29 [(.iconst (-1), 1), (.ireturn, 1)] := Jvm.Free.DS.facts 29 _ (by decide +kernel) (by decide +kernel)
theorem d_CM_shape_29 : decode prog_1_method_8_code 29 = .ok (.iconst (-1), 1) := F_CM_shape_29.1
theorem d_CM_shape_30 : decode prog_1_method_8_code 30 = .ok (.ireturn, 1) := F_CM_shape_29.2.1
theorem F_MD_shape_0 : Jvm.Free.DS.Facts prog_12_method_48_code 0 [(.aload_n 0, 1), (.iconst 0, 1), (.putfield 74, 3), (.aload_n 0, 1), (.iload_n 1, 1), (.invokevirtual 238, 3), (.ifCond .ne (5), 3), (.iconst (-1), 1), (.ireturn, 1)] := Jvm.Free.DS.facts 0 _ (by decide +kernel) (by decide +kernel)
theorem d_MD_shape_0 : decode prog_12_method_48_code 0 = .ok (.aload_n 0, 1) := F_MD_shape_0.1
theorem d_MD_shape_1 : decode prog_12_method_48_code 1 = .ok (.iconst 0, 1) := F_MD_shape_0.2.1
theorem d_MD_shape_2 : decode prog_12_method_48_code 2 = .ok (.putfield 74, 3) := F_MD_shape_0.2.2.1
theorem d_MD_shape_5 : decode prog_12_method_48_code 5 = .ok (.aload_n 0, 1) := F_MD_shape_0.2.2.2.1
theorem d_MD_shape_6 : decode prog_12_method_48_code 6 = .ok (.iload_n 1, 1) := F_MD_shape_0.2.2.2.2.1
theorem d_MD_shape_7 : decode prog_12_method_48_code 7 = .ok (.invokevirtual 238, 3) := F_MD_shape_0.2.2.2.2.2.1
theorem d_MD_shape_10 : decode prog_12_method_48_code 10 = .ok (.ifCond .ne (5), 3) := F_MD_shape_0.2.2.2.2.2.2.1
theorem d_MD_shape_13 : decode prog_12_method_48_code 13 = .ok (.iconst (-1), 1) := F_MD_shape_0.2.2.2.2.2.2.2.1
theorem d_MD_shape_14 : decode prog_12_method_48_code 14 = .ok (.ireturn, 1) := F_MD_shape_0.2.2.2.2.2.2.2.2.1
theorem F_CM_dent_0 : Jvm.Free.DS.Facts prog_1_method_9_code 0 [(.aload_n 0, 1), (.getfield 12, 3), (.iload_n 1, 1), (.invokevirtual 127, 3), (.ifCond .ne (5), 3), (.iconst (-1), 1), (.ireturn, 1)] := Jvm.Free.DS.facts 0 _ (by decide +kernel) (by decide +kernel)
theorem d_CM_dent_0 : decode prog_1_method_9_code 0 = .ok (.aload_n 0, 1) := F_CM_dent_0.1
theorem d_CM_dent_1 : decode prog_1_method_9_code 1 = .ok (.getfield 12, 3) := F_CM_dent_0.2.1
theorem d_CM_dent_4 : decode prog_1_method_9_code 4 = .ok (.iload_n 1, 1) := F_CM_dent_0.2.2.1
theorem d_CM_dent_5 : decode prog_1_method_9_code 5 = .ok (.invokevirtual 127, 3) := F_CM_dent_0.2.2.2.1
theorem d_CM_dent_8 : decode prog_1_method_9_code 8 = .ok (.ifCond .ne (5), 3) := F_CM_dent_0.2.2.2.2.1
theorem d_CM_dent_11 : decode prog_1_method_9_code 11 = .ok (.iconst (-1), 1) := F_CM_dent_0.2.2.2.2.2.1
theorem d_CM_dent_12 : decode prog_1_method_9_code 12 = .ok (.ireturn, 1) := F_CM_dent_0.2.2.2.2.2.2.1
theorem F_MD_dent_0 : Jvm.Free.DS.Facts prog_12_method_49_code 0 [(.aload_n 0, 1), (.iconst 0, 1), (.putfield 74, 3), (.aload_n 0, 1), (.iload_n 1, 1), (.invokevirtual 238, 3), (.ifCond .eq (11), 3)] := Jvm.Free.DS.facts 0 _ (by decide +kernel) (by decide +kernel)
theorem d_MD_dent_0 : decode prog_12_method_49_code 0 = .ok (.aload_n 0, 1) := F_MD_dent_0.1
theorem d_MD_dent_1 : decode prog_12_method_49_code 1 = .ok (.iconst 0, 1) := F_MD_dent_0.2.1
theorem d_MD_dent_2 : decode prog_12_method_49_code 2 = .ok (.putfield 74, 3) := F_MD_dent_0.2.2.1
theorem d_MD_dent_5 : decode prog_12_method_49_code 5 = .ok (.aload_n 0, 1) := F_MD_dent_0.2.2.2.1
theorem d_MD_dent_6 : decode prog_12_method_49_code 6 = .ok (.iload_n 1, 1) := F_MD_dent_0.2.2.2.2.1
theorem d_MD_dent_7 : decode prog_12_method_49_code 7 = .ok (.invokevirtual 238, 3) := F_MD_dent_0.2.2.2.2.2.1
theorem d_MD_dent_10 : decode prog_12_method_49_code 10 = .ok (.ifCond .eq (11), 3) := F_MD_dent_0.2.2.2.2.2.2.1
theorem F_MD_dent_21 : Jvm.Free.DS.Facts prog_12_method_49_code 21 [(.iconst (-1), 1), (.ireturn, 1)] := Jvm.Free.DS.facts 21 _ (by decide +kernel) (by decide +kernel)
theorem d_MD_dent_21 : decode prog_12_method_49_code 21 = .ok (.iconst (-1), 1) := F_MD_dent_21.1
theorem d_MD_dent_22 : decode prog_12_method_49_code 22 = .ok (.ireturn, 1) := F_MD_dent_21.2.1
theorem F_CM_area_0 : Jvm.Free.DS.Facts prog_1_method_10_code 0 [(.aload_n 0, 1), (.getfield 12, 3), (.iload_n 1, 1), (.invokevirtual 127, 3), (.ifCond .eq (19), 3)] := Jvm.Free.DS.facts 0 _ (by decide +kernel) (by decide +kernel)
theorem d_CM_area_0 : decode prog_1_method_10_code 0 = .ok (.aload_n 0, 1) := F_CM_area_0.1
theorem d_CM_area_1 : decode prog_1_method_10_code 1 = .ok (.getfield 12, 3) := F_CM_area_0.2.1
theorem d_CM_area_4 : decode prog_1_method_10_code 4 = .ok (.iload_n 1, 1) := F_CM_area_0.2.2.1
theorem d_CM_area_5 : decode prog_1_method_10_code 5 = .ok (.invokevirtual 127, 3) := F_CM_area_0.2.2.2.1
theorem d_CM_area_8 : decode prog_1_method_10_code 8 = .ok (.ifCond .eq (19), 3) := F_CM_area_0.2.2.2.2.1
theorem F_CM_area_27 : Jvm.Free.DS.Facts prog_1_method_10_code 27 [(.ldc 183, 2), (.ireturn, 1)] := Jvm.Free.DS.facts 27 _ (by decide +kernel) (by decide +kernel)
theorem d_CM_area_27 : decode prog_1_method_10_code 27 = .ok (.ldc 183, 2) := F_CM_area_27.1
theorem d_CM_area_29 : decode prog_1_method_10_code 29 = .ok (.ireturn, 1) := F_CM_area_27.2.1
theorem F_MD_area_0 : Jvm.Free.DS.Facts prog_12_method_50_code 0 [(.aload_n 0, 1), (.iconst 0, 1), (.putfield 74, 3), (.aload_n 0, 1), (.iload_n 1, 1), (.invokevirtual 238, 3), (.ifCond .eq (29), 3)] := Jvm.Free.DS.facts 0 _ (by decide +kernel) (by decide +kernel)
theorem d_MD_area_0 : decode prog_12_method_50_code 0 = .ok (.aload_n 0, 1) := F_MD_area_0.1
theorem d_MD_area_1 : decode prog_12_method_50_code 1 = .ok (.iconst 0, 1) := F_MD_area_0.2.1
theorem d_MD_area_2 : decode prog_12_method_50_code 2 = .ok (.putfield 74, 3) := F_MD_area_0.2.2.1
theorem d_MD_area_5 : decode prog_12_method_50_code 5 = .ok (.aload_n 0, 1) := F_MD_area_0.2.2.2.1
theorem d_MD_area_6 : decode prog_12_method_50_code 6 = .ok (.iload_n 1, 1) := F_MD_area_0.2.2.2.2.1
theorem d_MD_area_7 : decode prog_12_method_50_code 7 = .ok (.invokevirtual 238, 3) := F_MD_area_0.2.2.2.2.2.1
theorem d_MD_area_10 : decode prog_12_method_50_code 10 = .ok (.ifCond .eq (29), 3) := F_MD_area_0.2.2.2.2.2.2.1
theorem F_MD_area_39 : Jvm.Free.DS.Facts prog_12_method_50_code 39 [(.ldc_w 265, 3), (.ireturn, 1)] := Jvm.Free.DS.facts 39 _ (by decide +kernel) (by decide +kernel)
theorem d_MD_area_39 : decode prog_12_method_50_code 39 = .ok (.ldc_w 265, 3) := F_MD_area_39.1
theorem d_MD_area_42 : decode prog_12_method_50_code 42 = .ok (.ireturn, 1) := F_MD_area_39.2.1
theorem F_CM_make_0 : Jvm.Free.DS.Facts prog_1_method_11_code 0 [(.aload_n 0, 1), (.getfield 12, 3), (.iload_n 1, 1), (.invokevirtual 127, 3), (.ifCond .eq (14), 3)] := Jvm.Free.DS.facts 0 _ (by decide +kernel) (by decide +kernel)
theorem d_CM_make_0 : decode prog_1_method_11_code 0 = .ok (.aload_n 0, 1) := F_CM_make_0.1
theorem d_CM_make_1 : decode prog_1_method_11_code 1 = .ok (.getfield 12, 3) := F_CM_make_0.2.1
theorem d_CM_make_4 : decode prog_1_method_11_code 4 = .ok (.iload_n 1, 1) := F_CM_make_0.2.2.1
theorem d_CM_make_5 : decode prog_1_method_11_code 5 = .ok (.invokevirtual 127, 3) := F_CM_make_0.2.2.2.1
theorem d_CM_make_8 : decode prog_1_method_11_code 8 = .ok (.ifCond .eq (14), 3) := F_CM_make_0.2.2.2.2.1
theorem F_CM_make_22 : Jvm.Free.DS.Facts prog_1_method_11_code 22 [(.iconst (-1), 1), (.ireturn, 1)] := Jvm.Free.DS.facts 22 _ (by decide +kernel) (by decide +kernel)
theorem d_CM_make_22 : decode prog_1_method_11_code 22 = .ok (.iconst (-1), 1) := F_CM_make_22.1
theorem d_CM_make_23 : decode prog_1_method_11_code 23 = .ok (.ireturn, 1) := F_CM_make_22.2.1
theorem F_MD_make_0 : Jvm.Free.DS.Facts prog_12_method_54_code 0 [(.aload_n 0, 1), (.iconst 0, 1), (.putfield 74, 3), (.aload_n 0, 1), (.iload_n 1, 1), (.invokevirtual 238, 3), (.ifCond .eq (11), 3)] := Jvm.Free.DS.facts 0 _ (by decide +kernel) (by decide +kernel)
theorem d_MD_make_0 : decode prog_12_method_54_code 0 = .ok (.aload_n 0, 1) := F_MD_make_0.1
theorem d_MD_make_1 : decode prog_12_method_54_code 1 = .ok (.iconst 0, 1) := F_MD_make_0.2.1
theorem d_MD_make_2 : decode prog_12_method_54_code 2 = .ok (.putfield 74, 3) := F_MD_make_0.2.2.1
theorem d_MD_make_5 : decode prog_12_method_54_code 5 = .ok (.aload_n 0, 1) := F_MD_make_0.2.2.2.1
theorem d_MD_make_6 : decode prog_12_method_54_code 6 = .ok (.iload_n 1, 1) := F_MD_make_0.2.2.2.2.1
theorem d_MD_make_7 : decode prog_12_method_54_code 7 = .ok (.invokevirtual 238, 3) := F_MD_make_0.2.2.2.2.2.1
theorem d_MD_make_10 : decode prog_12_method_54_code 10 = .ok (.ifCond .eq (11), 3) := F_MD_make_0.2.2.2.2.2.2.1
theorem F_MD_make_21 : Jvm.Free.DS.Facts prog_12_method_54_code 21 [(.iconst (-1), 1), (.ireturn, 1)] := Jvm.Free.DS.facts 21 _ (by decide +kernel) (by decide +kernel)
theorem d_MD_make_21 : decode prog_12_method_54_code 21 = .ok (.iconst (-1), 1) := F_MD_make_21.1
theorem d_MD_make_22 : decode prog_12_method_54_code 22 = .ok (.ireturn, 1) := F_MD_make_21.2.1
theorem F_CM_square_0 : Jvm.Free.DS.Facts prog_1_method_12_code 0 [(.aload_n 0, 1), (.getfield 12, 3), (.iload_n 1, 1), (.invokevirtual 127, 3), (.ifCond .eq (14), 3)] := Jvm.Free.DS.facts 0 _ (by decide +kernel) (by decide +kernel)
theorem d_CM_square_0 : decode prog_1_method_12_code 0 = .ok (.aload_n 0, 1) := F_CM_square_0.1
theorem d_CM_square_1 : decode prog_1_method_12_code 1 = .ok (.getfield 12, 3) := F_CM_square_0.2.1
theorem d_CM_square_4 : decode prog_1_method_12_code 4 = .ok (.iload_n 1, 1) := F_CM_square_0.2.2.1
theorem d_CM_square_5 : decode prog_1_method_12_code 5 = .ok (.invokevirtual 127, 3) := F_CM_square_0.2.2.2.1
theorem d_CM_square_8 : decode prog_1_method_12_code 8 = .ok (.ifCond .eq (14), 3) := F_CM_square_0.2.2.2.2.1
theorem F_CM_square_22 : Jvm.Free.DS.Facts prog_1_method_12_code 22 [(.iconst (-1), 1), (.ireturn, 1)] := Jvm.Free.DS.facts 22 _ (by decide +kernel) (by decide +kernel)
theorem d_CM_square_22 : decode prog_1_method_12_code 22 = .ok (.iconst (-1), 1) := F_CM_square_22.1
theorem d_CM_square_23 : decode prog_1_method_12_code 23 = .ok (.ireturn, 1) := F_CM_square_22.2.1
theorem F_MD_square_0 : Jvm.Free.DS.Facts prog_12_method_55_code 0 [(.aload_n 0, 1), (.iconst 0, 1), (.putfield 74, 3), (.aload_n 0, 1), (.iload_n 1, 1), (.invokevirtual 238, 3), (.ifCond .eq (14), 3)] := Jvm.Free.DS.facts 0 _ (by decide +kernel) (by decide +kernel)
theorem d_MD_square_0 : decode prog_12_method_55_code 0 = .ok (.aload_n 0, 1) := F_MD_square_0.1
theorem d_MD_square_1 : decode prog_12_method_55_code 1 = .ok (.iconst 0, 1) := F_MD_square_0.2.1
theorem d_MD_square_2 : decode prog_12_method_55_code 2 = .ok (.putfield 74, 3) := F_MD_square_0.2.2.1
theorem d_MD_square_5 : decode prog_12_method_55_code 5 = .ok (.aload_n 0, 1) := F_MD_square_0.2.2.2.1
theorem d_MD_square_6 : decode prog_12_method_55_code 6 = .ok (.iload_n 1, 1) := F_MD_square_0.2.2.2.2.1
theorem d_MD_square_7 : decode prog_12_method_55_code 7 = .ok (.invokevirtual 238, 3) := F_MD_square_0.2.2.2.2.2.1
theorem d_MD_square_10 : decode prog_12_method_55_code 10 = .ok (.ifCond .eq (14), 3) := F_MD_square_0.2.2.2.2.2.2.1
theorem F_MD_square_24 : Jvm.Free.DS.Facts prog_12_method_55_code 24 [(.iconst (-1), 1), (.ireturn, 1)] := Jvm.Free.DS.facts 24 _ (by decide +kernel) (by decide +kernel)
theorem d_MD_square_24 : decode prog_12_method_55_code 24 = .ok (.iconst (-1), 1) := F_MD_square_24.1
theorem d_MD_square_25 : decode prog_12_method_55_code 25 = .ok (.ireturn, 1) := F_MD_square_24.2.1
theorem F_CM_product_0 : Jvm.Free.DS.Facts prog_1_method_13_code 0 [(.aload_n 0, 1), (.getfield 12, 3), (.iload_n 1, 1), (.invokevirtual 151, 3), (.ifCond .eq (14), 3)] := Jvm.Free.DS.facts 0 _ (by decide +kernel) (by decide +kernel)
theorem d_CM_product_0 : decode prog_1_method_13_code 0 = .ok (.aload_n 0, 1) := F_CM_product_0.1
theorem d_CM_product_1 : decode prog_1_method_13_code 1 = .ok (.getfield 12, 3) := F_CM_product_0.2.1
theorem d_CM_product_4 : decode prog_1_method_13_code 4 = .ok (.iload_n 1, 1) := F_CM_product_0.2.2.1
theorem d_CM_product_5 : decode prog_1_method_13_code 5 = .ok (.invokevirtual 151, 3) := F_CM_product_0.2.2.2.1
theorem d_CM_product_8 : decode prog_1_method_13_code 8 = .ok (.ifCond .eq (14), 3) := F_CM_product_0.2.2.2.2.1
theorem F_CM_product_22 : Jvm.Free.DS.Facts prog_1_method_13_code 22 [(.iconst (-1), 1), (.ireturn, 1)] := Jvm.Free.DS.facts 22 _ (by decide +kernel) (by decide +kernel)
theorem d_CM_product_22 : decode prog_1_method_13_code 22 = .ok (.iconst (-1), 1) := F_CM_product_22.1
theorem d_CM_product_23 : decode prog_1_method_13_code 23 = .ok (.ireturn, 1) := F_CM_product_22.2.1
theorem F_MD_product_0 : Jvm.Free.DS.Facts prog_12_method_57_code 0 [(.aload_n 0, 1), (.iconst 0, 1), (.putfield 74, 3), (.aload_n 0, 1), (.iload_n 1, 1), (.invokevirtual 241, 3), (.ifCond .eq (11), 3)] := Jvm.Free.DS.facts 0 _ (by decide +kernel) (by decide +kernel)
theorem d_MD_product_0 : decode prog_12_method_57_code 0 = .ok (.aload_n 0, 1) := F_MD_product_0.1
theorem d_MD_product_1 : decode prog_12_method_57_code 1 = .ok (.iconst 0, 1) := F_MD_product_0.2.1
theorem d_MD_product_2 : decode prog_12_method_57_code 2 = .ok (.putfield 74, 3) := F_MD_product_0.2.2.1
theorem d_MD_product_5 : decode prog_12_method_57_code 5 = .ok (.aload_n 0, 1) := F_MD_product_0.2.2.2.1
theorem d_MD_product_6 : decode prog_12_method_57_code 6 = .ok (.iload_n 1, 1) := F_MD_product_0.2.2.2.2.1
theorem d_MD_product_7 : decode prog_12_method_57_code 7 = .ok (.invokevirtual 241, 3) := F_MD_product_0.2.2.2.2.2.1
theorem d_MD_product_10 : decode prog_12_method_57_code 10 = .ok (.ifCond .eq (11), 3) := F_MD_product_0.2.2.2.2.2.2.1
theorem F_MD_product_21 : Jvm.Free.DS.Facts prog_12_method_57_code 21 [(.iconst (-1), 1), (.ireturn, 1)] := Jvm.Free.DS.facts 21 _ (by decide +kernel) (by decide +kernel)
theorem d_MD_product_21 : decode prog_12_method_57_code 21 = .ok (.iconst (-1), 1) := F_MD_product_21.1
theorem d_MD_product_22 : decode prog_12_method_57_code 22 = .ok (.ireturn, 1) := F_MD_product_21.2.1
theorem F_CM_inverse_0 : Jvm.Free.DS.Facts prog_1_method_14_code 0 [(.aload_n 0, 1), (.getfield 12, 3), (.iload_n 1, 1), (.invokevirtual 151, 3), (.ifCond .ne (5), 3), (.iconst (-1), 1), (.ireturn, 1)] := Jvm.Free.DS.facts 0 _ (by decide +kernel) (by decide +kernel)
theorem d_CM_inverse_0 : decode prog_1_method_14_code 0 = .ok (.aload_n 0, 1) := F_CM_inverse_0.1
theorem d_CM_inverse_1 : decode prog_1_method_14_code 1 = .ok (.getfield 12, 3) := F_CM_inverse_0.2.1
theorem d_CM_inverse_4 : decode prog_1_method_14_code 4 = .ok (.iload_n 1, 1) := F_CM_inverse_0.2.2.1
theorem d_CM_inverse_5 : decode prog_1_method_14_code 5 = .ok (.invokevirtual 151, 3) := F_CM_inverse_0.2.2.2.1
theorem d_CM_inverse_8 : decode prog_1_method_14_code 8 = .ok (.ifCond .ne (5), 3) := F_CM_inverse_0.2.2.2.2.1
theorem d_CM_inverse_11 : decode prog_1_method_14_code 11 = .ok (.iconst (-1), 1) := F_CM_inverse_0.2.2.2.2.2.1
theorem d_CM_inverse_12 : decode prog_1_method_14_code 12 = .ok (.ireturn, 1) := F_CM_inverse_0.2.2.2.2.2.2.1
theorem F_MD_inverse_0 : Jvm.Free.DS.Facts prog_12_method_59_code 0 [(.aload_n 0, 1), (.iconst 0, 1), (.putfield 74, 3), (.aload_n 0, 1), (.iload_n 1, 1), (.invokevirtual 241, 3), (.ifCond .ne (5), 3), (.iconst (-1), 1), (.ireturn, 1)] := Jvm.Free.DS.facts 0 _ (by decide +kernel) (by decide +kernel)
theorem d_MD_inverse_0 : decode prog_12_method_59_code 0 = .ok (.aload_n 0, 1) := F_MD_inverse_0.1
theorem d_MD_inverse_1 : decode prog_12_method_59_code 1 = .ok (.iconst 0, 1) := F_MD_inverse_0.2.1
theorem d_MD_inverse_2 : decode prog_12_method_59_code 2 = .ok (.putfield 74, 3) := F_MD_inverse_0.2.2.1
theorem d_MD_inverse_5 : decode prog_12_method_59_code 5 = .ok (.aload_n 0, 1) := F_MD_inverse_0.2.2.2.1
theorem d_MD_inverse_6 : decode prog_12_method_59_code 6 = .ok (.iload_n 1, 1) := F_MD_inverse_0.2.2.2.2.1
theorem d_MD_inverse_7 : decode prog_12_method_59_code 7 = .ok (.invokevirtual 241, 3) := F_MD_inverse_0.2.2.2.2.2.1
theorem d_MD_inverse_10 : decode prog_12_method_59_code 10 = .ok (.ifCond .ne (5), 3) := F_MD_inverse_0.2.2.2.2.2.2.1
theorem d_MD_inverse_13 : decode prog_12_method_59_code 13 = .ok (.iconst (-1), 1) := F_MD_inverse_0.2.2.2.2.2.2.2.1
theorem d_MD_inverse_14 : decode prog_12_method_59_code 14 = .ok (.ireturn, 1) := F_MD_inverse_0.2.2.2.2.2.2.2.2.1
theorem F_CM_power_0 : Jvm.Free.DS.Facts prog_1_method_15_code 0 [(.aload_n 0, 1), (.getfield 12, 3), (.iload_n 1, 1), (.invokevirtual 151, 3), (.ifCond .eq (13), 3)] := Jvm.Free.DS.facts 0 _ (by decide +kernel) (by decide +kernel)
theorem d_CM_power_0 : decode prog_1_method_15_code 0 = .ok (.aload_n 0, 1) := F_CM_power_0.1
theorem d_CM_power_1 : decode prog_1_method_15_code 1 = .ok (.getfield 12, 3) := F_CM_power_0.2.1
theorem d_CM_power_4 : decode prog_1_method_15_code 4 = .ok (.iload_n 1, 1) := F_CM_power_0.2.2.1
theorem d_CM_power_5 : decode prog_1_method_15_code 5 = .ok (.invokevirtual 151, 3) := F_CM_power_0.2.2.2.1
theorem d_CM_power_8 : decode prog_1_method_15_code 8 = .ok (.ifCond .eq (13), 3) := F_CM_power_0.2.2.2.2.1
theorem F_CM_power_21 : Jvm.Free.DS.Facts prog_1_method_15_code 21 [(.iconst (-1), 1), (.ireturn, 1)] := Jvm.Free.DS.facts 21 _ (by decide +kernel) (by decide +kernel)
theorem d_CM_power_21 : decode prog_1_method_15_code 21 = .ok (.iconst (-1), 1) := F_CM_power_21.1
theorem d_CM_power_22 : decode prog_1_method_15_code 22 = .ok (.ireturn, 1) := F_CM_power_21.2.1
theorem F_MD_power_0 : Jvm.Free.DS.Facts prog_12_method_61_code 0 [(.aload_n 0, 1), (.iconst 0, 1), (.putfield 74, 3), (.aload_n 0, 1), (.iload_n 1, 1), (.invokevirtual 241, 3), (.ifCond .eq (13), 3)] := Jvm.Free.DS.facts 0 _ (by decide +kernel) (by decide +kernel)
theorem d_MD_power_0 : decode prog_12_method_61_code 0 = .ok (.aload_n 0, 1) := F_MD_power_0.1
theorem d_MD_power_1 : decode prog_12_method_61_code 1 = .ok (.iconst 0, 1) := F_MD_power_0.2.1
theorem d_MD_power_2 : decode prog_12_method_61_code 2 = .ok (.putfield 74, 3) := F_MD_power_0.2.2.1
theorem d_MD_power_5 : decode prog_12_method_61_code 5 = .ok (.aload_n 0, 1) := F_MD_power_0.2.2.2.1
theorem d_MD_power_6 : decode prog_12_method_61_code 6 = .ok (.iload_n 1, 1) := F_MD_power_0.2.2.2.2.1
theorem d_MD_power_7 : decode prog_12_method_61_code 7 = .ok (.invokevirtual 241, 3) := F_MD_power_0.2.2.2.2.2.1
theorem d_MD_power_10 : decode prog_12_method_61_code 10 = .ok (.ifCond .eq (13), 3) := F_MD_power_0.2.2.2.2.2.2.1
theorem F_MD_power_23 : Jvm.Free.DS.Facts prog_12_method_61_code 23 [(.iconst (-1), 1), (.ireturn, 1)] := Jvm.Free.DS.facts 23 _ (by decide +kernel) (by decide +kernel)
theorem d_MD_power_23 : decode prog_12_method_61_code 23 = .ok (.iconst (-1), 1) := F_MD_power_23.1
theorem d_MD_power_24 : decode prog_12_method_61_code 24 = .ok (.ireturn, 1) := F_MD_power_23.2.1
theorem F_CM_drop_0 : Jvm.Free.DS.Facts prog_1_method_16_code 0 [(.aload_n 0, 1), (.getfield 12, 3), (.iload_n 1, 1), (.invokevirtual 151, 3), (.ifCond .ne (5), 3), (.iconst (-1), 1), (.ireturn, 1)] := Jvm.Free.DS.facts 0 _ (by decide +kernel) (by decide +kernel)
theorem d_CM_drop_0 : decode prog_1_method_16_code 0 = .ok (.aload_n 0, 1) := F_CM_drop_0.1
theorem d_CM_drop_1 : decode prog_1_method_16_code 1 = .ok (.getfield 12, 3) := F_CM_drop_0.2.1
theorem d_CM_drop_4 : decode prog_1_method_16_code 4 = .ok (.iload_n 1, 1) := F_CM_drop_0.2.2.1
theorem d_CM_drop_5 : decode prog_1_method_16_code 5 = .ok (.invokevirtual 151, 3) := F_CM_drop_0.2.2.2.1
theorem d_CM_drop_8 : decode prog_1_method_16_code 8 = .ok (.ifCond .ne (5), 3) := F_CM_drop_0.2.2.2.2.1
theorem d_CM_drop_11 : decode prog_1_method_16_code 11 = .ok (.iconst (-1), 1) := F_CM_drop_0.2.2.2.2.2.1
theorem d_CM_drop_12 : decode prog_1_method_16_code 12 = .ok (.ireturn, 1) := F_CM_drop_0.2.2.2.2.2.2.1
theorem F_MD_drop_0 : Jvm.Free.DS.Facts prog_12_method_62_code 0 [(.aload_n 0, 1), (.iconst 0, 1), (.putfield 74, 3), (.aload_n 0, 1), (.iload_n 1, 1), (.invokevirtual 241, 3), (.ifCond .ne (5), 3), (.iconst (-1), 1), (.ireturn, 1)] := Jvm.Free.DS.facts 0 _ (by decide +kernel) (by decide +kernel)
theorem d_MD_drop_0 : decode prog_12_method_62_code 0 = .ok (.aload_n 0, 1) := F_MD_drop_0.1
theorem d_MD_drop_1 : decode prog_12_method_62_code 1 = .ok (.iconst 0, 1) := F_MD_drop_0.2.1
theorem d_MD_drop_2 : decode prog_12_method_62_code 2 = .ok (.putfield 74, 3) := F_MD_drop_0.2.2.1
theorem d_MD_drop_5 : decode prog_12_method_62_code 5 = .ok (.aload_n 0, 1) := F_MD_drop_0.2.2.2.1
theorem d_MD_drop_6 : decode prog_12_method_62_code 6 = .ok (.iload_n 1, 1) := F_MD_drop_0.2.2.2.2.1
theorem d_MD_drop_7 : decode prog_12_method_62_code 7 = .ok (.invokevirtual 241, 3) := F_MD_drop_0.2.2.2.2.2.1
theorem d_MD_drop_10 : decode prog_12_method_62_code 10 = .ok (.ifCond .ne (5), 3) := F_MD_drop_0.2.2.2.2.2.2.1
theorem d_MD_drop_13 : decode prog_12_method_62_code 13 = .ok (.iconst (-1), 1) := F_MD_drop_0.2.2.2.2.2.2.2.1
theorem d_MD_drop_14 : decode prog_12_method_62_code 14 = .ok (.ireturn, 1) := F_MD_drop_0.2.2.2.2.2.2.2.2.1
theorem F_CM_tell_0 : Jvm.Free.DS.Facts prog_1_method_17_code 0 [(.iload_n 1, 1), (.iload_n 2, 1), (.iload_n 3, 1), (.invokestatic 228, 3)] := Jvm.Free.DS.facts 0 _ (by decide +kernel) (by decide +kernel)
theorem d_CM_tell_0 : decode prog_1_method_17_code 0 = .ok (.iload_n 1, 1) := F_CM_tell_0.1
theorem d_CM_tell_1 : decode prog_1_method_17_code 1 = .ok (.iload_n 2, 1) := F_CM_tell_0.2.1
theorem d_CM_tell_2 : decode prog_1_method_17_code 2 = .ok (.iload_n 3, 1) := F_CM_tell_0.2.2.1
theorem d_CM_tell_3 : decode prog_1_method_17_code 3 = .ok (.invokestatic 228, 3) := F_CM_tell_0.2.2.2.1
theorem F_CM_areNumbers_0 : Jvm.Free.DS.Facts prog_1_method_79_code 0 [(.iload_n 0, 1), (.invokestatic 443, 3)] := Jvm.Free.DS.facts 0 _ (by decide +kernel) (by decide +kernel)
theorem d_CM_areNumbers_0 : decode prog_1_method_79_code 0 = .ok (.iload_n 0, 1) := F_CM_areNumbers_0.1
theorem d_CM_areNumbers_1 : decode prog_1_method_79_code 1 = .ok (.invokestatic 443, 3) := F_CM_areNumbers_0.2.1
theorem F_CM_isNumber_0 : Jvm.Free.DS.Facts prog_1_method_78_code 0 [(.iload_n 0, 1), (.sipush (-9999), 3), (.if_icmp .lt (14), 3), (.iload_n 0, 1), (.sipush (9999), 3), (.if_icmp .gt (7), 3), (.iconst 1, 1), (.goto (4), 3), (.iconst 0, 1), (.ireturn, 1)] := Jvm.Free.DS.facts 0 _ (by decide +kernel) (by decide +kernel)
theorem d_CM_isNumber_0 : decode prog_1_method_78_code 0 = .ok (.iload_n 0, 1) := F_CM_isNumber_0.1
theorem d_CM_isNumber_1 : decode prog_1_method_78_code 1 = .ok (.sipush (-9999), 3) := F_CM_isNumber_0.2.1
theorem d_CM_isNumber_4 : decode prog_1_method_78_code 4 = .ok (.if_icmp .lt (14), 3) := F_CM_isNumber_0.2.2.1
theorem d_CM_isNumber_7 : decode prog_1_method_78_code 7 = .ok (.iload_n 0, 1) := F_CM_isNumber_0.2.2.2.1
theorem d_CM_isNumber_8 : decode prog_1_method_78_code 8 = .ok (.sipush (9999), 3) := F_CM_isNumber_0.2.2.2.2.1
theorem d_CM_isNumber_11 : decode prog_1_method_78_code 11 = .ok (.if_icmp .gt (7), 3) := F_CM_isNumber_0.2.2.2.2.2.1
theorem d_CM_isNumber_14 : decode prog_1_method_78_code 14 = .ok (.iconst 1, 1) := F_CM_isNumber_0.2.2.2.2.2.2.1
theorem d_CM_isNumber_15 : decode prog_1_method_78_code 15 = .ok (.goto (4), 3) := F_CM_isNumber_0.2.2.2.2.2.2.2.1
theorem d_CM_isNumber_18 : decode prog_1_method_78_code 18 = .ok (.iconst 0, 1) := F_CM_isNumber_0.2.2.2.2.2.2.2.2.1
theorem d_CM_isNumber_19 : decode prog_1_method_78_code 19 = .ok (.ireturn, 1) := F_CM_isNumber_0.2.2.2.2.2.2.2.2.2.1
theorem F_MD_tell_0 : Jvm.Free.DS.Facts prog_12_method_64_code 0 [(.aload_n 0, 1), (.iconst 0, 1), (.putfield 74, 3), (.iload_n 1, 1), (.invokestatic 289, 3)] := Jvm.Free.DS.facts 0 _ (by decide +kernel) (by decide +kernel)
theorem d_MD_tell_0 : decode prog_12_method_64_code 0 = .ok (.aload_n 0, 1) := F_MD_tell_0.1
theorem d_MD_tell_1 : decode prog_12_method_64_code 1 = .ok (.iconst 0, 1) := F_MD_tell_0.2.1
theorem d_MD_tell_2 : decode prog_12_method_64_code 2 = .ok (.putfield 74, 3) := F_MD_tell_0.2.2.1
theorem d_MD_tell_5 : decode prog_12_method_64_code 5 = .ok (.iload_n 1, 1) := F_MD_tell_0.2.2.2.1
theorem d_MD_tell_6 : decode prog_12_method_64_code 6 = .ok (.invokestatic 289, 3) := F_MD_tell_0.2.2.2.2.1
theorem F_MD_isEdge_0 : Jvm.Free.DS.Facts prog_12_method_63_code 0 [(.iload_n 0, 1), (.sipush (-9999), 3), (.if_icmp .lt (14), 3), (.iload_n 0, 1), (.sipush (9999), 3), (.if_icmp .gt (7), 3), (.iconst 1, 1), (.goto (4), 3), (.iconst 0, 1), (.ireturn, 1)] := Jvm.Free.DS.facts 0 _ (by decide +kernel) (by decide +kernel)
theorem d_MD_isEdge_0 : decode prog_12_method_63_code 0 = .ok (.iload_n 0, 1) := F_MD_isEdge_0.1
theorem d_MD_isEdge_1 : decode prog_12_method_63_code 1 = .ok (.sipush (-9999), 3) := F_MD_isEdge_0.2.1
theorem d_MD_isEdge_4 : decode prog_12_method_63_code 4 = .ok (.if_icmp .lt (14), 3) := F_MD_isEdge_0.2.2.1
theorem d_MD_isEdge_7 : decode prog_12_method_63_code 7 = .ok (.iload_n 0, 1) := F_MD_isEdge_0.2.2.2.1
theorem d_MD_isEdge_8 : decode prog_12_method_63_code 8 = .ok (.sipush (9999), 3) := F_MD_isEdge_0.2.2.2.2.1
theorem d_MD_isEdge_11 : decode prog_12_method_63_code 11 = .ok (.if_icmp .gt (7), 3) := F_MD_isEdge_0.2.2.2.2.2.1
theorem d_MD_isEdge_14 : decode prog_12_method_63_code 14 = .ok (.iconst 1, 1) := F_MD_isEdge_0.2.2.2.2.2.2.1
theorem d_MD_isEdge_15 : decode prog_12_method_63_code 15 = .ok (.goto (4), 3) := F_MD_isEdge_0.2.2.2.2.2.2.2.1
theorem d_MD_isEdge_18 : decode prog_12_method_63_code 18 = .ok (.iconst 0, 1) := F_MD_isEdge_0.2.2.2.2.2.2.2.2.1
theorem d_MD_isEdge_19 : decode prog_12_method_63_code 19 = .ok (.ireturn, 1) := F_MD_isEdge_0.2.2.2.2.2.2.2.2.2.1
theorem F_CM_moves_0 : Jvm.Free.DS.Facts prog_1_method_18_code 0 [(.aload_n 0, 1), (.getfield 12, 3), (.iload_n 1, 1), (.invokevirtual 151, 3), (.ifCond .ne (5), 3), (.iconst (-1), 1), (.ireturn, 1)] := Jvm.Free.DS.facts 0 _ (by decide +kernel) (by decide +kernel)
theorem d_CM_moves_0 : decode prog_1_method_18_code 0 = .ok (.aload_n 0, 1) := F_CM_moves_0.1
theorem d_CM_moves_1 : decode prog_1_method_18_code 1 = .ok (.getfield 12, 3) := F_CM_moves_0.2.1
theorem d_CM_moves_4 : decode prog_1_method_18_code 4 = .ok (.iload_n 1, 1) := F_CM_moves_0.2.2.1
theorem d_CM_moves_5 : decode prog_1_method_18_code 5 = .ok (.invokevirtual 151, 3) := F_CM_moves_0.2.2.2.1
theorem d_CM_moves_8 : decode prog_1_method_18_code 8 = .ok (.ifCond .ne (5), 3) := F_CM_moves_0.2.2.2.2.1
theorem d_CM_moves_11 : decode prog_1_method_18_code 11 = .ok (.iconst (-1), 1) := F_CM_moves_0.2.2.2.2.2.1
theorem d_CM_moves_12 : decode prog_1_method_18_code 12 = .ok (.ireturn, 1) := F_CM_moves_0.2.2.2.2.2.2.1
theorem F_MD_moves_0 : Jvm.Free.DS.Facts prog_12_method_67_code 0 [(.aload_n 0, 1), (.iconst 0, 1), (.putfield 74, 3), (.aload_n 0, 1), (.iload_n 1, 1), (.invokevirtual 241, 3), (.ifCond .ne (5), 3), (.iconst (-1), 1), (.ireturn, 1)] := Jvm.Free.DS.facts 0 _ (by decide +kernel) (by decide +kernel)
theorem d_MD_moves_0 : decode prog_12_method_67_code 0 = .ok (.aload_n 0, 1) := F_MD_moves_0.1
theorem d_MD_moves_1 : decode prog_12_method_67_code 1 = .ok (.iconst 0, 1) := F_MD_moves_0.2.1
theorem d_MD_moves_2 : decode prog_12_method_67_code 2 = .ok (.putfield 74, 3) := F_MD_moves_0.2.2.1
theorem d_MD_moves_5 : decode prog_12_method_67_code 5 = .ok (.aload_n 0, 1) := F_MD_moves_0.2.2.2.1
theorem d_MD_moves_6 : decode prog_12_method_67_code 6 = .ok (.iload_n 1, 1) := F_MD_moves_0.2.2.2.2.1
theorem d_MD_moves_7 : decode prog_12_method_67_code 7 = .ok (.invokevirtual 241, 3) := F_MD_moves_0.2.2.2.2.2.1
theorem d_MD_moves_10 : decode prog_12_method_67_code 10 = .ok (.ifCond .ne (5), 3) := F_MD_moves_0.2.2.2.2.2.2.1
theorem d_MD_moves_13 : decode prog_12_method_67_code 13 = .ok (.iconst (-1), 1) := F_MD_moves_0.2.2.2.2.2.2.2.1
theorem d_MD_moves_14 : decode prog_12_method_67_code 14 = .ok (.ireturn, 1) := F_MD_moves_0.2.2.2.2.2.2.2.2.1
theorem F_CM_undo_0 : Jvm.Free.DS.Facts prog_1_method_19_code 0 [(.aload_n 0, 1), (.getfield 47, 3), (.getfield 260, 3), (.ifCond .ne (5), 3), (.iconst (-1), 1), (.ireturn, 1)] := Jvm.Free.DS.facts 0 _ (by decide +kernel) (by decide +kernel)
theorem d_CM_undo_0 : decode prog_1_method_19_code 0 = .ok (.aload_n 0, 1) := F_CM_undo_0.1
theorem d_CM_undo_1 : decode prog_1_method_19_code 1 = .ok (.getfield 47, 3) := F_CM_undo_0.2.1
theorem d_CM_undo_4 : decode prog_1_method_19_code 4 = .ok (.getfield 260, 3) := F_CM_undo_0.2.2.1
theorem d_CM_undo_7 : decode prog_1_method_19_code 7 = .ok (.ifCond .ne (5), 3) := F_CM_undo_0.2.2.2.1
theorem d_CM_undo_10 : decode prog_1_method_19_code 10 = .ok (.iconst (-1), 1) := F_CM_undo_0.2.2.2.2.1
theorem d_CM_undo_11 : decode prog_1_method_19_code 11 = .ok (.ireturn, 1) := F_CM_undo_0.2.2.2.2.2.1
theorem F_MD_undo_0 : Jvm.Free.DS.Facts prog_12_method_52_code 0 [(.aload_n 0, 1), (.iconst 0, 1), (.putfield 74, 3), (.aload_n 0, 1), (.getfield 71, 3), (.ifCond .ne (5), 3), (.iconst (-1), 1), (.ireturn, 1)] := Jvm.Free.DS.facts 0 _ (by decide +kernel) (by decide +kernel)
theorem d_MD_undo_0 : decode prog_12_method_52_code 0 = .ok (.aload_n 0, 1) := F_MD_undo_0.1
theorem d_MD_undo_1 : decode prog_12_method_52_code 1 = .ok (.iconst 0, 1) := F_MD_undo_0.2.1
theorem d_MD_undo_2 : decode prog_12_method_52_code 2 = .ok (.putfield 74, 3) := F_MD_undo_0.2.2.1
theorem d_MD_undo_5 : decode prog_12_method_52_code 5 = .ok (.aload_n 0, 1) := F_MD_undo_0.2.2.2.1
theorem d_MD_undo_6 : decode prog_12_method_52_code 6 = .ok (.getfield 71, 3) := F_MD_undo_0.2.2.2.2.1
theorem d_MD_undo_9 : decode prog_12_method_52_code 9 = .ok (.ifCond .ne (5), 3) := F_MD_undo_0.2.2.2.2.2.1
theorem d_MD_undo_12 : decode prog_12_method_52_code 12 = .ok (.iconst (-1), 1) := F_MD_undo_0.2.2.2.2.2.2.1
theorem d_MD_undo_13 : decode prog_12_method_52_code 13 = .ok (.ireturn, 1) := F_MD_undo_0.2.2.2.2.2.2.2.1
theorem F_CM_image_0 : Jvm.Free.DS.Facts prog_1_method_20_code 0 [(.aload_n 0, 1), (.getfield 12, 3), (.iload_n 1, 1), (.invokevirtual 151, 3), (.ifCond .eq (21), 3)] := Jvm.Free.DS.facts 0 _ (by decide +kernel) (by decide +kernel)
theorem d_CM_image_0 : decode prog_1_method_20_code 0 = .ok (.aload_n 0, 1) := F_CM_image_0.1
theorem d_CM_image_1 : decode prog_1_method_20_code 1 = .ok (.getfield 12, 3) := F_CM_image_0.2.1
theorem d_CM_image_4 : decode prog_1_method_20_code 4 = .ok (.iload_n 1, 1) := F_CM_image_0.2.2.1
theorem d_CM_image_5 : decode prog_1_method_20_code 5 = .ok (.invokevirtual 151, 3) := F_CM_image_0.2.2.2.1
theorem d_CM_image_8 : decode prog_1_method_20_code 8 = .ok (.ifCond .eq (21), 3) := F_CM_image_0.2.2.2.2.1
theorem F_CM_image_29 : Jvm.Free.DS.Facts prog_1_method_20_code 29 [(.ldc2_w 270, 3), (.lreturn, 1)] := Jvm.Free.DS.facts 29 _ (by decide +kernel) (by decide +kernel)
theorem d_CM_image_29 : decode prog_1_method_20_code 29 = .ok (.ldc2_w 270, 3) := F_CM_image_29.1
theorem d_CM_image_32 : decode prog_1_method_20_code 32 = .ok (.lreturn, 1) := F_CM_image_29.2.1
theorem F_MD_image_0 : Jvm.Free.DS.Facts prog_12_method_69_code 0 [(.aload_n 0, 1), (.iconst 0, 1), (.putfield 74, 3), (.aload_n 0, 1), (.iload_n 1, 1), (.invokevirtual 241, 3), (.ifCond .eq (21), 3)] := Jvm.Free.DS.facts 0 _ (by decide +kernel) (by decide +kernel)
theorem d_MD_image_0 : decode prog_12_method_69_code 0 = .ok (.aload_n 0, 1) := F_MD_image_0.1
theorem d_MD_image_1 : decode prog_12_method_69_code 1 = .ok (.iconst 0, 1) := F_MD_image_0.2.1
theorem d_MD_image_2 : decode prog_12_method_69_code 2 = .ok (.putfield 74, 3) := F_MD_image_0.2.2.1
theorem d_MD_image_5 : decode prog_12_method_69_code 5 = .ok (.aload_n 0, 1) := F_MD_image_0.2.2.2.1
theorem d_MD_image_6 : decode prog_12_method_69_code 6 = .ok (.iload_n 1, 1) := F_MD_image_0.2.2.2.2.1
theorem d_MD_image_7 : decode prog_12_method_69_code 7 = .ok (.invokevirtual 241, 3) := F_MD_image_0.2.2.2.2.2.1
theorem d_MD_image_10 : decode prog_12_method_69_code 10 = .ok (.ifCond .eq (21), 3) := F_MD_image_0.2.2.2.2.2.2.1
theorem F_MD_image_31 : Jvm.Free.DS.Facts prog_12_method_69_code 31 [(.ldc2_w 307, 3), (.lreturn, 1)] := Jvm.Free.DS.facts 31 _ (by decide +kernel) (by decide +kernel)
theorem d_MD_image_31 : decode prog_12_method_69_code 31 = .ok (.ldc2_w 307, 3) := F_MD_image_31.1
theorem d_MD_image_34 : decode prog_12_method_69_code 34 = .ok (.lreturn, 1) := F_MD_image_31.2.1
theorem F_CM_before_0 : Jvm.Free.DS.Facts prog_1_method_21_code 0 [(.aload_n 0, 1), (.getfield 12, 3), (.iload_n 1, 1), (.invokevirtual 151, 3), (.ifCond .eq (21), 3)] := Jvm.Free.DS.facts 0 _ (by decide +kernel) (by decide +kernel)
theorem d_CM_before_0 : decode prog_1_method_21_code 0 = .ok (.aload_n 0, 1) := F_CM_before_0.1
theorem d_CM_before_1 : decode prog_1_method_21_code 1 = .ok (.getfield 12, 3) := F_CM_before_0.2.1
theorem d_CM_before_4 : decode prog_1_method_21_code 4 = .ok (.iload_n 1, 1) := F_CM_before_0.2.2.1
theorem d_CM_before_5 : decode prog_1_method_21_code 5 = .ok (.invokevirtual 151, 3) := F_CM_before_0.2.2.2.1
theorem d_CM_before_8 : decode prog_1_method_21_code 8 = .ok (.ifCond .eq (21), 3) := F_CM_before_0.2.2.2.2.1
theorem F_CM_before_29 : Jvm.Free.DS.Facts prog_1_method_21_code 29 [(.ldc2_w 270, 3), (.lreturn, 1)] := Jvm.Free.DS.facts 29 _ (by decide +kernel) (by decide +kernel)
theorem d_CM_before_29 : decode prog_1_method_21_code 29 = .ok (.ldc2_w 270, 3) := F_CM_before_29.1
theorem d_CM_before_32 : decode prog_1_method_21_code 32 = .ok (.lreturn, 1) := F_CM_before_29.2.1
theorem F_MD_before_0 : Jvm.Free.DS.Facts prog_12_method_70_code 0 [(.aload_n 0, 1), (.iconst 0, 1), (.putfield 74, 3), (.aload_n 0, 1), (.iload_n 1, 1), (.invokevirtual 241, 3), (.ifCond .eq (21), 3)] := Jvm.Free.DS.facts 0 _ (by decide +kernel) (by decide +kernel)
theorem d_MD_before_0 : decode prog_12_method_70_code 0 = .ok (.aload_n 0, 1) := F_MD_before_0.1
theorem d_MD_before_1 : decode prog_12_method_70_code 1 = .ok (.iconst 0, 1) := F_MD_before_0.2.1
theorem d_MD_before_2 : decode prog_12_method_70_code 2 = .ok (.putfield 74, 3) := F_MD_before_0.2.2.1
theorem d_MD_before_5 : decode prog_12_method_70_code 5 = .ok (.aload_n 0, 1) := F_MD_before_0.2.2.2.1
theorem d_MD_before_6 : decode prog_12_method_70_code 6 = .ok (.iload_n 1, 1) := F_MD_before_0.2.2.2.2.1
theorem d_MD_before_7 : decode prog_12_method_70_code 7 = .ok (.invokevirtual 241, 3) := F_MD_before_0.2.2.2.2.2.1
theorem d_MD_before_10 : decode prog_12_method_70_code 10 = .ok (.ifCond .eq (21), 3) := F_MD_before_0.2.2.2.2.2.2.1
theorem F_MD_before_31 : Jvm.Free.DS.Facts prog_12_method_70_code 31 [(.ldc2_w 307, 3), (.lreturn, 1)] := Jvm.Free.DS.facts 31 _ (by decide +kernel) (by decide +kernel)
theorem d_MD_before_31 : decode prog_12_method_70_code 31 = .ok (.ldc2_w 307, 3) := F_MD_before_31.1
theorem d_MD_before_34 : decode prog_12_method_70_code 34 = .ok (.lreturn, 1) := F_MD_before_31.2.1
theorem F_CM_line_0 : Jvm.Free.DS.Facts prog_1_method_22_code 0 [(.aload_n 0, 1), (.getfield 12, 3), (.iload_n 1, 1), (.invokevirtual 151, 3), (.ifCond .eq (21), 3)] := Jvm.Free.DS.facts 0 _ (by decide +kernel) (by decide +kernel)
theorem d_CM_line_0 : decode prog_1_method_22_code 0 = .ok (.aload_n 0, 1) := F_CM_line_0.1
theorem d_CM_line_1 : decode prog_1_method_22_code 1 = .ok (.getfield 12, 3) := F_CM_line_0.2.1
theorem d_CM_line_4 : decode prog_1_method_22_code 4 = .ok (.iload_n 1, 1) := F_CM_line_0.2.2.1
theorem d_CM_line_5 : decode prog_1_method_22_code 5 = .ok (.invokevirtual 151, 3) := F_CM_line_0.2.2.2.1
theorem d_CM_line_8 : decode prog_1_method_22_code 8 = .ok (.ifCond .eq (21), 3) := F_CM_line_0.2.2.2.2.1
theorem F_CM_line_29 : Jvm.Free.DS.Facts prog_1_method_22_code 29 [(.ldc2_w 270, 3), (.lreturn, 1)] := Jvm.Free.DS.facts 29 _ (by decide +kernel) (by decide +kernel)
theorem d_CM_line_29 : decode prog_1_method_22_code 29 = .ok (.ldc2_w 270, 3) := F_CM_line_29.1
theorem d_CM_line_32 : decode prog_1_method_22_code 32 = .ok (.lreturn, 1) := F_CM_line_29.2.1
theorem F_MD_line_0 : Jvm.Free.DS.Facts prog_12_method_71_code 0 [(.aload_n 0, 1), (.iconst 0, 1), (.putfield 74, 3), (.aload_n 0, 1), (.iload_n 1, 1), (.invokevirtual 241, 3), (.ifCond .eq (21), 3)] := Jvm.Free.DS.facts 0 _ (by decide +kernel) (by decide +kernel)
theorem d_MD_line_0 : decode prog_12_method_71_code 0 = .ok (.aload_n 0, 1) := F_MD_line_0.1
theorem d_MD_line_1 : decode prog_12_method_71_code 1 = .ok (.iconst 0, 1) := F_MD_line_0.2.1
theorem d_MD_line_2 : decode prog_12_method_71_code 2 = .ok (.putfield 74, 3) := F_MD_line_0.2.2.1
theorem d_MD_line_5 : decode prog_12_method_71_code 5 = .ok (.aload_n 0, 1) := F_MD_line_0.2.2.2.1
theorem d_MD_line_6 : decode prog_12_method_71_code 6 = .ok (.iload_n 1, 1) := F_MD_line_0.2.2.2.2.1
theorem d_MD_line_7 : decode prog_12_method_71_code 7 = .ok (.invokevirtual 241, 3) := F_MD_line_0.2.2.2.2.2.1
theorem d_MD_line_10 : decode prog_12_method_71_code 10 = .ok (.ifCond .eq (21), 3) := F_MD_line_0.2.2.2.2.2.2.1
theorem F_MD_line_31 : Jvm.Free.DS.Facts prog_12_method_71_code 31 [(.ldc2_w 307, 3), (.lreturn, 1)] := Jvm.Free.DS.facts 31 _ (by decide +kernel) (by decide +kernel)
theorem d_MD_line_31 : decode prog_12_method_71_code 31 = .ok (.ldc2_w 307, 3) := F_MD_line_31.1
theorem d_MD_line_34 : decode prog_12_method_71_code 34 = .ok (.lreturn, 1) := F_MD_line_31.2.1
theorem F_CM_horizon_0 : Jvm.Free.DS.Facts prog_1_method_23_code 0 [(.aload_n 0, 1), (.getfield 12, 3), (.iload_n 1, 1), (.invokevirtual 151, 3), (.ifCond .eq (10), 3)] := Jvm.Free.DS.facts 0 _ (by decide +kernel) (by decide +kernel)
theorem d_CM_horizon_0 : decode prog_1_method_23_code 0 = .ok (.aload_n 0, 1) := F_CM_horizon_0.1
theorem d_CM_horizon_1 : decode prog_1_method_23_code 1 = .ok (.getfield 12, 3) := F_CM_horizon_0.2.1
theorem d_CM_horizon_4 : decode prog_1_method_23_code 4 = .ok (.iload_n 1, 1) := F_CM_horizon_0.2.2.1
theorem d_CM_horizon_5 : decode prog_1_method_23_code 5 = .ok (.invokevirtual 151, 3) := F_CM_horizon_0.2.2.2.1
theorem d_CM_horizon_8 : decode prog_1_method_23_code 8 = .ok (.ifCond .eq (10), 3) := F_CM_horizon_0.2.2.2.2.1
theorem F_CM_horizon_18 : Jvm.Free.DS.Facts prog_1_method_23_code 18 [(.ldc2_w 270, 3), (.lreturn, 1)] := Jvm.Free.DS.facts 18 _ (by decide +kernel) (by decide +kernel)
theorem d_CM_horizon_18 : decode prog_1_method_23_code 18 = .ok (.ldc2_w 270, 3) := F_CM_horizon_18.1
theorem d_CM_horizon_21 : decode prog_1_method_23_code 21 = .ok (.lreturn, 1) := F_CM_horizon_18.2.1
theorem F_MD_horizon_0 : Jvm.Free.DS.Facts prog_12_method_72_code 0 [(.aload_n 0, 1), (.iconst 0, 1), (.putfield 74, 3), (.aload_n 0, 1), (.iload_n 1, 1), (.invokevirtual 241, 3), (.ifCond .eq (10), 3)] := Jvm.Free.DS.facts 0 _ (by decide +kernel) (by decide +kernel)
theorem d_MD_horizon_0 : decode prog_12_method_72_code 0 = .ok (.aload_n 0, 1) := F_MD_horizon_0.1
theorem d_MD_horizon_1 : decode prog_12_method_72_code 1 = .ok (.iconst 0, 1) := F_MD_horizon_0.2.1
theorem d_MD_horizon_2 : decode prog_12_method_72_code 2 = .ok (.putfield 74, 3) := F_MD_horizon_0.2.2.1
theorem d_MD_horizon_5 : decode prog_12_method_72_code 5 = .ok (.aload_n 0, 1) := F_MD_horizon_0.2.2.2.1
theorem d_MD_horizon_6 : decode prog_12_method_72_code 6 = .ok (.iload_n 1, 1) := F_MD_horizon_0.2.2.2.2.1
theorem d_MD_horizon_7 : decode prog_12_method_72_code 7 = .ok (.invokevirtual 241, 3) := F_MD_horizon_0.2.2.2.2.2.1
theorem d_MD_horizon_10 : decode prog_12_method_72_code 10 = .ok (.ifCond .eq (10), 3) := F_MD_horizon_0.2.2.2.2.2.2.1
theorem F_MD_horizon_20 : Jvm.Free.DS.Facts prog_12_method_72_code 20 [(.ldc2_w 307, 3), (.lreturn, 1)] := Jvm.Free.DS.facts 20 _ (by decide +kernel) (by decide +kernel)
theorem d_MD_horizon_20 : decode prog_12_method_72_code 20 = .ok (.ldc2_w 307, 3) := F_MD_horizon_20.1
theorem d_MD_horizon_23 : decode prog_12_method_72_code 23 = .ok (.lreturn, 1) := F_MD_horizon_20.2.1
theorem F_CM_vanishing_0 : Jvm.Free.DS.Facts prog_1_method_24_code 0 [(.aload_n 0, 1), (.getfield 12, 3), (.iload_n 1, 1), (.invokevirtual 151, 3), (.ifCond .eq (10), 3)] := Jvm.Free.DS.facts 0 _ (by decide +kernel) (by decide +kernel)
theorem d_CM_vanishing_0 : decode prog_1_method_24_code 0 = .ok (.aload_n 0, 1) := F_CM_vanishing_0.1
theorem d_CM_vanishing_1 : decode prog_1_method_24_code 1 = .ok (.getfield 12, 3) := F_CM_vanishing_0.2.1
theorem d_CM_vanishing_4 : decode prog_1_method_24_code 4 = .ok (.iload_n 1, 1) := F_CM_vanishing_0.2.2.1
theorem d_CM_vanishing_5 : decode prog_1_method_24_code 5 = .ok (.invokevirtual 151, 3) := F_CM_vanishing_0.2.2.2.1
theorem d_CM_vanishing_8 : decode prog_1_method_24_code 8 = .ok (.ifCond .eq (10), 3) := F_CM_vanishing_0.2.2.2.2.1
theorem F_CM_vanishing_18 : Jvm.Free.DS.Facts prog_1_method_24_code 18 [(.ldc2_w 270, 3), (.lreturn, 1)] := Jvm.Free.DS.facts 18 _ (by decide +kernel) (by decide +kernel)
theorem d_CM_vanishing_18 : decode prog_1_method_24_code 18 = .ok (.ldc2_w 270, 3) := F_CM_vanishing_18.1
theorem d_CM_vanishing_21 : decode prog_1_method_24_code 21 = .ok (.lreturn, 1) := F_CM_vanishing_18.2.1
theorem F_MD_vanishing_0 : Jvm.Free.DS.Facts prog_12_method_73_code 0 [(.aload_n 0, 1), (.iconst 0, 1), (.putfield 74, 3), (.aload_n 0, 1), (.iload_n 1, 1), (.invokevirtual 241, 3), (.ifCond .eq (10), 3)] := Jvm.Free.DS.facts 0 _ (by decide +kernel) (by decide +kernel)
theorem d_MD_vanishing_0 : decode prog_12_method_73_code 0 = .ok (.aload_n 0, 1) := F_MD_vanishing_0.1
theorem d_MD_vanishing_1 : decode prog_12_method_73_code 1 = .ok (.iconst 0, 1) := F_MD_vanishing_0.2.1
theorem d_MD_vanishing_2 : decode prog_12_method_73_code 2 = .ok (.putfield 74, 3) := F_MD_vanishing_0.2.2.1
theorem d_MD_vanishing_5 : decode prog_12_method_73_code 5 = .ok (.aload_n 0, 1) := F_MD_vanishing_0.2.2.2.1
theorem d_MD_vanishing_6 : decode prog_12_method_73_code 6 = .ok (.iload_n 1, 1) := F_MD_vanishing_0.2.2.2.2.1
theorem d_MD_vanishing_7 : decode prog_12_method_73_code 7 = .ok (.invokevirtual 241, 3) := F_MD_vanishing_0.2.2.2.2.2.1
theorem d_MD_vanishing_10 : decode prog_12_method_73_code 10 = .ok (.ifCond .eq (10), 3) := F_MD_vanishing_0.2.2.2.2.2.2.1
theorem F_MD_vanishing_20 : Jvm.Free.DS.Facts prog_12_method_73_code 20 [(.ldc2_w 307, 3), (.lreturn, 1)] := Jvm.Free.DS.facts 20 _ (by decide +kernel) (by decide +kernel)
theorem d_MD_vanishing_20 : decode prog_12_method_73_code 20 = .ok (.ldc2_w 307, 3) := F_MD_vanishing_20.1
theorem d_MD_vanishing_23 : decode prog_12_method_73_code 23 = .ok (.lreturn, 1) := F_MD_vanishing_20.2.1
theorem F_CM_cut_0 : Jvm.Free.DS.Facts prog_1_method_25_code 0 [(.aload_n 0, 1), (.getfield 12, 3), (.iload_n 1, 1), (.invokevirtual 151, 3), (.ifCond .eq (25), 3)] := Jvm.Free.DS.facts 0 _ (by decide +kernel) (by decide +kernel)
theorem d_CM_cut_0 : decode prog_1_method_25_code 0 = .ok (.aload_n 0, 1) := F_CM_cut_0.1
theorem d_CM_cut_1 : decode prog_1_method_25_code 1 = .ok (.getfield 12, 3) := F_CM_cut_0.2.1
theorem d_CM_cut_4 : decode prog_1_method_25_code 4 = .ok (.iload_n 1, 1) := F_CM_cut_0.2.2.1
theorem d_CM_cut_5 : decode prog_1_method_25_code 5 = .ok (.invokevirtual 151, 3) := F_CM_cut_0.2.2.2.1
theorem d_CM_cut_8 : decode prog_1_method_25_code 8 = .ok (.ifCond .eq (25), 3) := F_CM_cut_0.2.2.2.2.1
theorem F_CM_cut_33 : Jvm.Free.DS.Facts prog_1_method_25_code 33 [(.iconst (-1), 1), (.ireturn, 1)] := Jvm.Free.DS.facts 33 _ (by decide +kernel) (by decide +kernel)
theorem d_CM_cut_33 : decode prog_1_method_25_code 33 = .ok (.iconst (-1), 1) := F_CM_cut_33.1
theorem d_CM_cut_34 : decode prog_1_method_25_code 34 = .ok (.ireturn, 1) := F_CM_cut_33.2.1
theorem F_MD_cut_0 : Jvm.Free.DS.Facts prog_12_method_75_code 0 [(.aload_n 0, 1), (.iconst 0, 1), (.putfield 74, 3), (.aload_n 0, 1), (.iload_n 1, 1), (.invokevirtual 241, 3), (.ifCond .eq (19), 3)] := Jvm.Free.DS.facts 0 _ (by decide +kernel) (by decide +kernel)
theorem d_MD_cut_0 : decode prog_12_method_75_code 0 = .ok (.aload_n 0, 1) := F_MD_cut_0.1
theorem d_MD_cut_1 : decode prog_12_method_75_code 1 = .ok (.iconst 0, 1) := F_MD_cut_0.2.1
theorem d_MD_cut_2 : decode prog_12_method_75_code 2 = .ok (.putfield 74, 3) := F_MD_cut_0.2.2.1
theorem d_MD_cut_5 : decode prog_12_method_75_code 5 = .ok (.aload_n 0, 1) := F_MD_cut_0.2.2.2.1
theorem d_MD_cut_6 : decode prog_12_method_75_code 6 = .ok (.iload_n 1, 1) := F_MD_cut_0.2.2.2.2.1
theorem d_MD_cut_7 : decode prog_12_method_75_code 7 = .ok (.invokevirtual 241, 3) := F_MD_cut_0.2.2.2.2.2.1
theorem d_MD_cut_10 : decode prog_12_method_75_code 10 = .ok (.ifCond .eq (19), 3) := F_MD_cut_0.2.2.2.2.2.2.1
theorem F_MD_cut_29 : Jvm.Free.DS.Facts prog_12_method_75_code 29 [(.iconst (-1), 1), (.ireturn, 1)] := Jvm.Free.DS.facts 29 _ (by decide +kernel) (by decide +kernel)
theorem d_MD_cut_29 : decode prog_12_method_75_code 29 = .ok (.iconst (-1), 1) := F_MD_cut_29.1
theorem d_MD_cut_30 : decode prog_12_method_75_code 30 = .ok (.ireturn, 1) := F_MD_cut_29.2.1
theorem F_CM_cutSides_0 : Jvm.Free.DS.Facts prog_1_method_26_code 0 [(.aload_n 0, 1), (.getfield 12, 3), (.iload_n 1, 1), (.invokevirtual 151, 3), (.ifCond .eq (14), 3)] := Jvm.Free.DS.facts 0 _ (by decide +kernel) (by decide +kernel)
theorem d_CM_cutSides_0 : decode prog_1_method_26_code 0 = .ok (.aload_n 0, 1) := F_CM_cutSides_0.1
theorem d_CM_cutSides_1 : decode prog_1_method_26_code 1 = .ok (.getfield 12, 3) := F_CM_cutSides_0.2.1
theorem d_CM_cutSides_4 : decode prog_1_method_26_code 4 = .ok (.iload_n 1, 1) := F_CM_cutSides_0.2.2.1
theorem d_CM_cutSides_5 : decode prog_1_method_26_code 5 = .ok (.invokevirtual 151, 3) := F_CM_cutSides_0.2.2.2.1
theorem d_CM_cutSides_8 : decode prog_1_method_26_code 8 = .ok (.ifCond .eq (14), 3) := F_CM_cutSides_0.2.2.2.2.1
theorem F_CM_cutSides_22 : Jvm.Free.DS.Facts prog_1_method_26_code 22 [(.iconst (-1), 1), (.ireturn, 1)] := Jvm.Free.DS.facts 22 _ (by decide +kernel) (by decide +kernel)
theorem d_CM_cutSides_22 : decode prog_1_method_26_code 22 = .ok (.iconst (-1), 1) := F_CM_cutSides_22.1
theorem d_CM_cutSides_23 : decode prog_1_method_26_code 23 = .ok (.ireturn, 1) := F_CM_cutSides_22.2.1
theorem F_MD_cutSides_0 : Jvm.Free.DS.Facts prog_12_method_77_code 0 [(.aload_n 0, 1), (.iconst 0, 1), (.putfield 74, 3), (.aload_n 0, 1), (.iload_n 1, 1), (.invokevirtual 241, 3), (.ifCond .eq (11), 3)] := Jvm.Free.DS.facts 0 _ (by decide +kernel) (by decide +kernel)
theorem d_MD_cutSides_0 : decode prog_12_method_77_code 0 = .ok (.aload_n 0, 1) := F_MD_cutSides_0.1
theorem d_MD_cutSides_1 : decode prog_12_method_77_code 1 = .ok (.iconst 0, 1) := F_MD_cutSides_0.2.1
theorem d_MD_cutSides_2 : decode prog_12_method_77_code 2 = .ok (.putfield 74, 3) := F_MD_cutSides_0.2.2.1
theorem d_MD_cutSides_5 : decode prog_12_method_77_code 5 = .ok (.aload_n 0, 1) := F_MD_cutSides_0.2.2.2.1
theorem d_MD_cutSides_6 : decode prog_12_method_77_code 6 = .ok (.iload_n 1, 1) := F_MD_cutSides_0.2.2.2.2.1
theorem d_MD_cutSides_7 : decode prog_12_method_77_code 7 = .ok (.invokevirtual 241, 3) := F_MD_cutSides_0.2.2.2.2.2.1
theorem d_MD_cutSides_10 : decode prog_12_method_77_code 10 = .ok (.ifCond .eq (11), 3) := F_MD_cutSides_0.2.2.2.2.2.2.1
theorem F_MD_cutSides_21 : Jvm.Free.DS.Facts prog_12_method_77_code 21 [(.iconst (-1), 1), (.ireturn, 1)] := Jvm.Free.DS.facts 21 _ (by decide +kernel) (by decide +kernel)
theorem d_MD_cutSides_21 : decode prog_12_method_77_code 21 = .ok (.iconst (-1), 1) := F_MD_cutSides_21.1
theorem d_MD_cutSides_22 : decode prog_12_method_77_code 22 = .ok (.ireturn, 1) := F_MD_cutSides_21.2.1
theorem F_CM_kind_0 : Jvm.Free.DS.Facts prog_1_method_27_code 0 [(.aload_n 0, 1), (.getfield 12, 3), (.iload_n 1, 1), (.invokevirtual 151, 3), (.ifCond .eq (18), 3)] := Jvm.Free.DS.facts 0 _ (by decide +kernel) (by decide +kernel)
theorem d_CM_kind_0 : decode prog_1_method_27_code 0 = .ok (.aload_n 0, 1) := F_CM_kind_0.1
theorem d_CM_kind_1 : decode prog_1_method_27_code 1 = .ok (.getfield 12, 3) := F_CM_kind_0.2.1
theorem d_CM_kind_4 : decode prog_1_method_27_code 4 = .ok (.iload_n 1, 1) := F_CM_kind_0.2.2.1
theorem d_CM_kind_5 : decode prog_1_method_27_code 5 = .ok (.invokevirtual 151, 3) := F_CM_kind_0.2.2.2.1
theorem d_CM_kind_8 : decode prog_1_method_27_code 8 = .ok (.ifCond .eq (18), 3) := F_CM_kind_0.2.2.2.2.1
theorem F_CM_kind_26 : Jvm.Free.DS.Facts prog_1_method_27_code 26 [(.iconst (-1), 1), (.ireturn, 1)] := Jvm.Free.DS.facts 26 _ (by decide +kernel) (by decide +kernel)
theorem d_CM_kind_26 : decode prog_1_method_27_code 26 = .ok (.iconst (-1), 1) := F_CM_kind_26.1
theorem d_CM_kind_27 : decode prog_1_method_27_code 27 = .ok (.ireturn, 1) := F_CM_kind_26.2.1
theorem F_MD_kind_0 : Jvm.Free.DS.Facts prog_12_method_79_code 0 [(.aload_n 0, 1), (.iconst 0, 1), (.putfield 74, 3), (.aload_n 0, 1), (.iload_n 1, 1), (.invokevirtual 241, 3), (.ifCond .ne (5), 3), (.iconst (-1), 1), (.ireturn, 1)] := Jvm.Free.DS.facts 0 _ (by decide +kernel) (by decide +kernel)
theorem d_MD_kind_0 : decode prog_12_method_79_code 0 = .ok (.aload_n 0, 1) := F_MD_kind_0.1
theorem d_MD_kind_1 : decode prog_12_method_79_code 1 = .ok (.iconst 0, 1) := F_MD_kind_0.2.1
theorem d_MD_kind_2 : decode prog_12_method_79_code 2 = .ok (.putfield 74, 3) := F_MD_kind_0.2.2.1
theorem d_MD_kind_5 : decode prog_12_method_79_code 5 = .ok (.aload_n 0, 1) := F_MD_kind_0.2.2.2.1
theorem d_MD_kind_6 : decode prog_12_method_79_code 6 = .ok (.iload_n 1, 1) := F_MD_kind_0.2.2.2.2.1
theorem d_MD_kind_7 : decode prog_12_method_79_code 7 = .ok (.invokevirtual 241, 3) := F_MD_kind_0.2.2.2.2.2.1
theorem d_MD_kind_10 : decode prog_12_method_79_code 10 = .ok (.ifCond .ne (5), 3) := F_MD_kind_0.2.2.2.2.2.2.1
theorem d_MD_kind_13 : decode prog_12_method_79_code 13 = .ok (.iconst (-1), 1) := F_MD_kind_0.2.2.2.2.2.2.2.1
theorem d_MD_kind_14 : decode prog_12_method_79_code 14 = .ok (.ireturn, 1) := F_MD_kind_0.2.2.2.2.2.2.2.2.1
theorem F_CM_turn_0 : Jvm.Free.DS.Facts prog_1_method_28_code 0 [(.aload_n 0, 1), (.getfield 12, 3), (.iload_n 1, 1), (.invokevirtual 151, 3), (.ifCond .ne (5), 3), (.iconst 0, 1), (.ireturn, 1)] := Jvm.Free.DS.facts 0 _ (by decide +kernel) (by decide +kernel)
theorem d_CM_turn_0 : decode prog_1_method_28_code 0 = .ok (.aload_n 0, 1) := F_CM_turn_0.1
theorem d_CM_turn_1 : decode prog_1_method_28_code 1 = .ok (.getfield 12, 3) := F_CM_turn_0.2.1
theorem d_CM_turn_4 : decode prog_1_method_28_code 4 = .ok (.iload_n 1, 1) := F_CM_turn_0.2.2.1
theorem d_CM_turn_5 : decode prog_1_method_28_code 5 = .ok (.invokevirtual 151, 3) := F_CM_turn_0.2.2.2.1
theorem d_CM_turn_8 : decode prog_1_method_28_code 8 = .ok (.ifCond .ne (5), 3) := F_CM_turn_0.2.2.2.2.1
theorem d_CM_turn_11 : decode prog_1_method_28_code 11 = .ok (.iconst 0, 1) := F_CM_turn_0.2.2.2.2.2.1
theorem d_CM_turn_12 : decode prog_1_method_28_code 12 = .ok (.ireturn, 1) := F_CM_turn_0.2.2.2.2.2.2.1
theorem F_MD_turn_0 : Jvm.Free.DS.Facts prog_12_method_81_code 0 [(.aload_n 0, 1), (.iconst 0, 1), (.putfield 74, 3), (.aload_n 0, 1), (.iload_n 1, 1), (.invokevirtual 241, 3), (.ifCond .ne (5), 3), (.iconst 0, 1), (.ireturn, 1)] := Jvm.Free.DS.facts 0 _ (by decide +kernel) (by decide +kernel)
theorem d_MD_turn_0 : decode prog_12_method_81_code 0 = .ok (.aload_n 0, 1) := F_MD_turn_0.1
theorem d_MD_turn_1 : decode prog_12_method_81_code 1 = .ok (.iconst 0, 1) := F_MD_turn_0.2.1
theorem d_MD_turn_2 : decode prog_12_method_81_code 2 = .ok (.putfield 74, 3) := F_MD_turn_0.2.2.1
theorem d_MD_turn_5 : decode prog_12_method_81_code 5 = .ok (.aload_n 0, 1) := F_MD_turn_0.2.2.2.1
theorem d_MD_turn_6 : decode prog_12_method_81_code 6 = .ok (.iload_n 1, 1) := F_MD_turn_0.2.2.2.2.1
theorem d_MD_turn_7 : decode prog_12_method_81_code 7 = .ok (.invokevirtual 241, 3) := F_MD_turn_0.2.2.2.2.2.1
theorem d_MD_turn_10 : decode prog_12_method_81_code 10 = .ok (.ifCond .ne (5), 3) := F_MD_turn_0.2.2.2.2.2.2.1
theorem d_MD_turn_13 : decode prog_12_method_81_code 13 = .ok (.iconst 0, 1) := F_MD_turn_0.2.2.2.2.2.2.2.1
theorem d_MD_turn_14 : decode prog_12_method_81_code 14 = .ok (.ireturn, 1) := F_MD_turn_0.2.2.2.2.2.2.2.2.1
theorem F_CM_order_0 : Jvm.Free.DS.Facts prog_1_method_29_code 0 [(.aload_n 0, 1), (.getfield 12, 3), (.iload_n 1, 1), (.invokevirtual 151, 3), (.ifCond .ne (5), 3), (.iconst (-1), 1), (.ireturn, 1)] := Jvm.Free.DS.facts 0 _ (by decide +kernel) (by decide +kernel)
theorem d_CM_order_0 : decode prog_1_method_29_code 0 = .ok (.aload_n 0, 1) := F_CM_order_0.1
theorem d_CM_order_1 : decode prog_1_method_29_code 1 = .ok (.getfield 12, 3) := F_CM_order_0.2.1
theorem d_CM_order_4 : decode prog_1_method_29_code 4 = .ok (.iload_n 1, 1) := F_CM_order_0.2.2.1
theorem d_CM_order_5 : decode prog_1_method_29_code 5 = .ok (.invokevirtual 151, 3) := F_CM_order_0.2.2.2.1
theorem d_CM_order_8 : decode prog_1_method_29_code 8 = .ok (.ifCond .ne (5), 3) := F_CM_order_0.2.2.2.2.1
theorem d_CM_order_11 : decode prog_1_method_29_code 11 = .ok (.iconst (-1), 1) := F_CM_order_0.2.2.2.2.2.1
theorem d_CM_order_12 : decode prog_1_method_29_code 12 = .ok (.ireturn, 1) := F_CM_order_0.2.2.2.2.2.2.1
theorem F_MD_order_0 : Jvm.Free.DS.Facts prog_12_method_82_code 0 [(.aload_n 0, 1), (.iconst 0, 1), (.putfield 74, 3), (.aload_n 0, 1), (.iload_n 1, 1), (.invokevirtual 241, 3), (.ifCond .ne (5), 3), (.iconst (-1), 1), (.ireturn, 1)] := Jvm.Free.DS.facts 0 _ (by decide +kernel) (by decide +kernel)
theorem d_MD_order_0 : decode prog_12_method_82_code 0 = .ok (.aload_n 0, 1) := F_MD_order_0.1
theorem d_MD_order_1 : decode prog_12_method_82_code 1 = .ok (.iconst 0, 1) := F_MD_order_0.2.1
theorem d_MD_order_2 : decode prog_12_method_82_code 2 = .ok (.putfield 74, 3) := F_MD_order_0.2.2.1
theorem d_MD_order_5 : decode prog_12_method_82_code 5 = .ok (.aload_n 0, 1) := F_MD_order_0.2.2.2.1
theorem d_MD_order_6 : decode prog_12_method_82_code 6 = .ok (.iload_n 1, 1) := F_MD_order_0.2.2.2.2.1
theorem d_MD_order_7 : decode prog_12_method_82_code 7 = .ok (.invokevirtual 241, 3) := F_MD_order_0.2.2.2.2.2.1
theorem d_MD_order_10 : decode prog_12_method_82_code 10 = .ok (.ifCond .ne (5), 3) := F_MD_order_0.2.2.2.2.2.2.1
theorem d_MD_order_13 : decode prog_12_method_82_code 13 = .ok (.iconst (-1), 1) := F_MD_order_0.2.2.2.2.2.2.2.1
theorem d_MD_order_14 : decode prog_12_method_82_code 14 = .ok (.ireturn, 1) := F_MD_order_0.2.2.2.2.2.2.2.2.1
theorem F_CM_same_0 : Jvm.Free.DS.Facts prog_1_method_30_code 0 [(.aload_n 0, 1), (.getfield 12, 3), (.iload_n 1, 1), (.invokevirtual 151, 3), (.ifCond .eq (14), 3)] := Jvm.Free.DS.facts 0 _ (by decide +kernel) (by decide +kernel)
theorem d_CM_same_0 : decode prog_1_method_30_code 0 = .ok (.aload_n 0, 1) := F_CM_same_0.1
theorem d_CM_same_1 : decode prog_1_method_30_code 1 = .ok (.getfield 12, 3) := F_CM_same_0.2.1
theorem d_CM_same_4 : decode prog_1_method_30_code 4 = .ok (.iload_n 1, 1) := F_CM_same_0.2.2.1
theorem d_CM_same_5 : decode prog_1_method_30_code 5 = .ok (.invokevirtual 151, 3) := F_CM_same_0.2.2.2.1
theorem d_CM_same_8 : decode prog_1_method_30_code 8 = .ok (.ifCond .eq (14), 3) := F_CM_same_0.2.2.2.2.1
theorem F_CM_same_22 : Jvm.Free.DS.Facts prog_1_method_30_code 22 [(.iconst (-1), 1), (.ireturn, 1)] := Jvm.Free.DS.facts 22 _ (by decide +kernel) (by decide +kernel)
theorem d_CM_same_22 : decode prog_1_method_30_code 22 = .ok (.iconst (-1), 1) := F_CM_same_22.1
theorem d_CM_same_23 : decode prog_1_method_30_code 23 = .ok (.ireturn, 1) := F_CM_same_22.2.1
theorem F_MD_same_0 : Jvm.Free.DS.Facts prog_12_method_83_code 0 [(.aload_n 0, 1), (.iconst 0, 1), (.putfield 74, 3), (.aload_n 0, 1), (.iload_n 1, 1), (.invokevirtual 241, 3), (.ifCond .eq (11), 3)] := Jvm.Free.DS.facts 0 _ (by decide +kernel) (by decide +kernel)
theorem d_MD_same_0 : decode prog_12_method_83_code 0 = .ok (.aload_n 0, 1) := F_MD_same_0.1
theorem d_MD_same_1 : decode prog_12_method_83_code 1 = .ok (.iconst 0, 1) := F_MD_same_0.2.1
theorem d_MD_same_2 : decode prog_12_method_83_code 2 = .ok (.putfield 74, 3) := F_MD_same_0.2.2.1
theorem d_MD_same_5 : decode prog_12_method_83_code 5 = .ok (.aload_n 0, 1) := F_MD_same_0.2.2.2.1
theorem d_MD_same_6 : decode prog_12_method_83_code 6 = .ok (.iload_n 1, 1) := F_MD_same_0.2.2.2.2.1
theorem d_MD_same_7 : decode prog_12_method_83_code 7 = .ok (.invokevirtual 241, 3) := F_MD_same_0.2.2.2.2.2.1
theorem d_MD_same_10 : decode prog_12_method_83_code 10 = .ok (.ifCond .eq (11), 3) := F_MD_same_0.2.2.2.2.2.2.1
theorem F_MD_same_21 : Jvm.Free.DS.Facts prog_12_method_83_code 21 [(.iconst (-1), 1), (.ireturn, 1)] := Jvm.Free.DS.facts 21 _ (by decide +kernel) (by decide +kernel)
theorem d_MD_same_21 : decode prog_12_method_83_code 21 = .ok (.iconst (-1), 1) := F_MD_same_21.1
theorem d_MD_same_22 : decode prog_12_method_83_code 22 = .ok (.ireturn, 1) := F_MD_same_21.2.1
theorem F_CM_commute_0 : Jvm.Free.DS.Facts prog_1_method_31_code 0 [(.aload_n 0, 1), (.getfield 12, 3), (.iload_n 1, 1), (.invokevirtual 151, 3), (.ifCond .eq (14), 3)] := Jvm.Free.DS.facts 0 _ (by decide +kernel) (by decide +kernel)
theorem d_CM_commute_0 : decode prog_1_method_31_code 0 = .ok (.aload_n 0, 1) := F_CM_commute_0.1
theorem d_CM_commute_1 : decode prog_1_method_31_code 1 = .ok (.getfield 12, 3) := F_CM_commute_0.2.1
theorem d_CM_commute_4 : decode prog_1_method_31_code 4 = .ok (.iload_n 1, 1) := F_CM_commute_0.2.2.1
theorem d_CM_commute_5 : decode prog_1_method_31_code 5 = .ok (.invokevirtual 151, 3) := F_CM_commute_0.2.2.2.1
theorem d_CM_commute_8 : decode prog_1_method_31_code 8 = .ok (.ifCond .eq (14), 3) := F_CM_commute_0.2.2.2.2.1
theorem F_CM_commute_22 : Jvm.Free.DS.Facts prog_1_method_31_code 22 [(.iconst (-1), 1), (.ireturn, 1)] := Jvm.Free.DS.facts 22 _ (by decide +kernel) (by decide +kernel)
theorem d_CM_commute_22 : decode prog_1_method_31_code 22 = .ok (.iconst (-1), 1) := F_CM_commute_22.1
theorem d_CM_commute_23 : decode prog_1_method_31_code 23 = .ok (.ireturn, 1) := F_CM_commute_22.2.1
theorem F_MD_commute_0 : Jvm.Free.DS.Facts prog_12_method_85_code 0 [(.aload_n 0, 1), (.iconst 0, 1), (.putfield 74, 3), (.aload_n 0, 1), (.iload_n 1, 1), (.invokevirtual 241, 3), (.ifCond .eq (11), 3)] := Jvm.Free.DS.facts 0 _ (by decide +kernel) (by decide +kernel)
theorem d_MD_commute_0 : decode prog_12_method_85_code 0 = .ok (.aload_n 0, 1) := F_MD_commute_0.1
theorem d_MD_commute_1 : decode prog_12_method_85_code 1 = .ok (.iconst 0, 1) := F_MD_commute_0.2.1
theorem d_MD_commute_2 : decode prog_12_method_85_code 2 = .ok (.putfield 74, 3) := F_MD_commute_0.2.2.1
theorem d_MD_commute_5 : decode prog_12_method_85_code 5 = .ok (.aload_n 0, 1) := F_MD_commute_0.2.2.2.1
theorem d_MD_commute_6 : decode prog_12_method_85_code 6 = .ok (.iload_n 1, 1) := F_MD_commute_0.2.2.2.2.1
theorem d_MD_commute_7 : decode prog_12_method_85_code 7 = .ok (.invokevirtual 241, 3) := F_MD_commute_0.2.2.2.2.2.1
theorem d_MD_commute_10 : decode prog_12_method_85_code 10 = .ok (.ifCond .eq (11), 3) := F_MD_commute_0.2.2.2.2.2.2.1
theorem F_MD_commute_21 : Jvm.Free.DS.Facts prog_12_method_85_code 21 [(.iconst (-1), 1), (.ireturn, 1)] := Jvm.Free.DS.facts 21 _ (by decide +kernel) (by decide +kernel)
theorem d_MD_commute_21 : decode prog_12_method_85_code 21 = .ok (.iconst (-1), 1) := F_MD_commute_21.1
theorem d_MD_commute_22 : decode prog_12_method_85_code 22 = .ok (.ireturn, 1) := F_MD_commute_21.2.1
theorem F_CM_undoes_0 : Jvm.Free.DS.Facts prog_1_method_32_code 0 [(.aload_n 0, 1), (.getfield 12, 3), (.iload_n 1, 1), (.invokevirtual 151, 3), (.ifCond .eq (14), 3)] := Jvm.Free.DS.facts 0 _ (by decide +kernel) (by decide +kernel)
theorem d_CM_undoes_0 : decode prog_1_method_32_code 0 = .ok (.aload_n 0, 1) := F_CM_undoes_0.1
theorem d_CM_undoes_1 : decode prog_1_method_32_code 1 = .ok (.getfield 12, 3) := F_CM_undoes_0.2.1
theorem d_CM_undoes_4 : decode prog_1_method_32_code 4 = .ok (.iload_n 1, 1) := F_CM_undoes_0.2.2.1
theorem d_CM_undoes_5 : decode prog_1_method_32_code 5 = .ok (.invokevirtual 151, 3) := F_CM_undoes_0.2.2.2.1
theorem d_CM_undoes_8 : decode prog_1_method_32_code 8 = .ok (.ifCond .eq (14), 3) := F_CM_undoes_0.2.2.2.2.1
theorem F_CM_undoes_22 : Jvm.Free.DS.Facts prog_1_method_32_code 22 [(.iconst (-1), 1), (.ireturn, 1)] := Jvm.Free.DS.facts 22 _ (by decide +kernel) (by decide +kernel)
theorem d_CM_undoes_22 : decode prog_1_method_32_code 22 = .ok (.iconst (-1), 1) := F_CM_undoes_22.1
theorem d_CM_undoes_23 : decode prog_1_method_32_code 23 = .ok (.ireturn, 1) := F_CM_undoes_22.2.1
theorem F_MD_undoes_0 : Jvm.Free.DS.Facts prog_12_method_86_code 0 [(.aload_n 0, 1), (.iconst 0, 1), (.putfield 74, 3), (.aload_n 0, 1), (.iload_n 1, 1), (.invokevirtual 241, 3), (.ifCond .eq (11), 3)] := Jvm.Free.DS.facts 0 _ (by decide +kernel) (by decide +kernel)
theorem d_MD_undoes_0 : decode prog_12_method_86_code 0 = .ok (.aload_n 0, 1) := F_MD_undoes_0.1
theorem d_MD_undoes_1 : decode prog_12_method_86_code 1 = .ok (.iconst 0, 1) := F_MD_undoes_0.2.1
theorem d_MD_undoes_2 : decode prog_12_method_86_code 2 = .ok (.putfield 74, 3) := F_MD_undoes_0.2.2.1
theorem d_MD_undoes_5 : decode prog_12_method_86_code 5 = .ok (.aload_n 0, 1) := F_MD_undoes_0.2.2.2.1
theorem d_MD_undoes_6 : decode prog_12_method_86_code 6 = .ok (.iload_n 1, 1) := F_MD_undoes_0.2.2.2.2.1
theorem d_MD_undoes_7 : decode prog_12_method_86_code 7 = .ok (.invokevirtual 241, 3) := F_MD_undoes_0.2.2.2.2.2.1
theorem d_MD_undoes_10 : decode prog_12_method_86_code 10 = .ok (.ifCond .eq (11), 3) := F_MD_undoes_0.2.2.2.2.2.2.1
theorem F_MD_undoes_21 : Jvm.Free.DS.Facts prog_12_method_86_code 21 [(.iconst (-1), 1), (.ireturn, 1)] := Jvm.Free.DS.facts 21 _ (by decide +kernel) (by decide +kernel)
theorem d_MD_undoes_21 : decode prog_12_method_86_code 21 = .ok (.iconst (-1), 1) := F_MD_undoes_21.1
theorem d_MD_undoes_22 : decode prog_12_method_86_code 22 = .ok (.ireturn, 1) := F_MD_undoes_21.2.1
theorem F_CM_stays_0 : Jvm.Free.DS.Facts prog_1_method_33_code 0 [(.aload_n 0, 1), (.getfield 12, 3), (.iload_n 1, 1), (.invokevirtual 151, 3), (.ifCond .eq (14), 3)] := Jvm.Free.DS.facts 0 _ (by decide +kernel) (by decide +kernel)
theorem d_CM_stays_0 : decode prog_1_method_33_code 0 = .ok (.aload_n 0, 1) := F_CM_stays_0.1
theorem d_CM_stays_1 : decode prog_1_method_33_code 1 = .ok (.getfield 12, 3) := F_CM_stays_0.2.1
theorem d_CM_stays_4 : decode prog_1_method_33_code 4 = .ok (.iload_n 1, 1) := F_CM_stays_0.2.2.1
theorem d_CM_stays_5 : decode prog_1_method_33_code 5 = .ok (.invokevirtual 151, 3) := F_CM_stays_0.2.2.2.1
theorem d_CM_stays_8 : decode prog_1_method_33_code 8 = .ok (.ifCond .eq (14), 3) := F_CM_stays_0.2.2.2.2.1
theorem F_CM_stays_22 : Jvm.Free.DS.Facts prog_1_method_33_code 22 [(.iconst (-1), 1), (.ireturn, 1)] := Jvm.Free.DS.facts 22 _ (by decide +kernel) (by decide +kernel)
theorem d_CM_stays_22 : decode prog_1_method_33_code 22 = .ok (.iconst (-1), 1) := F_CM_stays_22.1
theorem d_CM_stays_23 : decode prog_1_method_33_code 23 = .ok (.ireturn, 1) := F_CM_stays_22.2.1
theorem F_MD_stays_0 : Jvm.Free.DS.Facts prog_12_method_88_code 0 [(.aload_n 0, 1), (.iconst 0, 1), (.putfield 74, 3), (.aload_n 0, 1), (.iload_n 1, 1), (.invokevirtual 241, 3), (.ifCond .eq (11), 3)] := Jvm.Free.DS.facts 0 _ (by decide +kernel) (by decide +kernel)
theorem d_MD_stays_0 : decode prog_12_method_88_code 0 = .ok (.aload_n 0, 1) := F_MD_stays_0.1
theorem d_MD_stays_1 : decode prog_12_method_88_code 1 = .ok (.iconst 0, 1) := F_MD_stays_0.2.1
theorem d_MD_stays_2 : decode prog_12_method_88_code 2 = .ok (.putfield 74, 3) := F_MD_stays_0.2.2.1
theorem d_MD_stays_5 : decode prog_12_method_88_code 5 = .ok (.aload_n 0, 1) := F_MD_stays_0.2.2.2.1
theorem d_MD_stays_6 : decode prog_12_method_88_code 6 = .ok (.iload_n 1, 1) := F_MD_stays_0.2.2.2.2.1
theorem d_MD_stays_7 : decode prog_12_method_88_code 7 = .ok (.invokevirtual 241, 3) := F_MD_stays_0.2.2.2.2.2.1
theorem d_MD_stays_10 : decode prog_12_method_88_code 10 = .ok (.ifCond .eq (11), 3) := F_MD_stays_0.2.2.2.2.2.2.1
theorem F_MD_stays_21 : Jvm.Free.DS.Facts prog_12_method_88_code 21 [(.iconst (-1), 1), (.ireturn, 1)] := Jvm.Free.DS.facts 21 _ (by decide +kernel) (by decide +kernel)
theorem d_MD_stays_21 : decode prog_12_method_88_code 21 = .ok (.iconst (-1), 1) := F_MD_stays_21.1
theorem d_MD_stays_22 : decode prog_12_method_88_code 22 = .ok (.ireturn, 1) := F_MD_stays_21.2.1
theorem F_CM_points_0 : Jvm.Free.DS.Facts prog_1_method_34_code 0 [(.aload_n 0, 1), (.getfield 12, 3), (.iload_n 1, 1), (.invokevirtual 151, 3), (.ifCond .eq (10), 3)] := Jvm.Free.DS.facts 0 _ (by decide +kernel) (by decide +kernel)
theorem d_CM_points_0 : decode prog_1_method_34_code 0 = .ok (.aload_n 0, 1) := F_CM_points_0.1
theorem d_CM_points_1 : decode prog_1_method_34_code 1 = .ok (.getfield 12, 3) := F_CM_points_0.2.1
theorem d_CM_points_4 : decode prog_1_method_34_code 4 = .ok (.iload_n 1, 1) := F_CM_points_0.2.2.1
theorem d_CM_points_5 : decode prog_1_method_34_code 5 = .ok (.invokevirtual 151, 3) := F_CM_points_0.2.2.2.1
theorem d_CM_points_8 : decode prog_1_method_34_code 8 = .ok (.ifCond .eq (10), 3) := F_CM_points_0.2.2.2.2.1
theorem F_CM_points_18 : Jvm.Free.DS.Facts prog_1_method_34_code 18 [(.iconst (-1), 1), (.ireturn, 1)] := Jvm.Free.DS.facts 18 _ (by decide +kernel) (by decide +kernel)
theorem d_CM_points_18 : decode prog_1_method_34_code 18 = .ok (.iconst (-1), 1) := F_CM_points_18.1
theorem d_CM_points_19 : decode prog_1_method_34_code 19 = .ok (.ireturn, 1) := F_CM_points_18.2.1
theorem F_MD_points_0 : Jvm.Free.DS.Facts prog_12_method_89_code 0 [(.aload_n 0, 1), (.iconst 0, 1), (.putfield 74, 3), (.aload_n 0, 1), (.iload_n 1, 1), (.invokevirtual 241, 3), (.ifCond .eq (10), 3)] := Jvm.Free.DS.facts 0 _ (by decide +kernel) (by decide +kernel)
theorem d_MD_points_0 : decode prog_12_method_89_code 0 = .ok (.aload_n 0, 1) := F_MD_points_0.1
theorem d_MD_points_1 : decode prog_12_method_89_code 1 = .ok (.iconst 0, 1) := F_MD_points_0.2.1
theorem d_MD_points_2 : decode prog_12_method_89_code 2 = .ok (.putfield 74, 3) := F_MD_points_0.2.2.1
theorem d_MD_points_5 : decode prog_12_method_89_code 5 = .ok (.aload_n 0, 1) := F_MD_points_0.2.2.2.1
theorem d_MD_points_6 : decode prog_12_method_89_code 6 = .ok (.iload_n 1, 1) := F_MD_points_0.2.2.2.2.1
theorem d_MD_points_7 : decode prog_12_method_89_code 7 = .ok (.invokevirtual 241, 3) := F_MD_points_0.2.2.2.2.2.1
theorem d_MD_points_10 : decode prog_12_method_89_code 10 = .ok (.ifCond .eq (10), 3) := F_MD_points_0.2.2.2.2.2.2.1
theorem F_MD_points_20 : Jvm.Free.DS.Facts prog_12_method_89_code 20 [(.iconst (-1), 1), (.ireturn, 1)] := Jvm.Free.DS.facts 20 _ (by decide +kernel) (by decide +kernel)
theorem d_MD_points_20 : decode prog_12_method_89_code 20 = .ok (.iconst (-1), 1) := F_MD_points_20.1
theorem d_MD_points_21 : decode prog_12_method_89_code 21 = .ok (.ireturn, 1) := F_MD_points_20.2.1
theorem F_CM_join_0 : Jvm.Free.DS.Facts prog_1_method_35_code 0 [(.aload_n 0, 1), (.getfield 12, 3), (.iload_n 1, 1), (.invokevirtual 160, 3), (.ifCond .eq (21), 3)] := Jvm.Free.DS.facts 0 _ (by decide +kernel) (by decide +kernel)
theorem d_CM_join_0 : decode prog_1_method_35_code 0 = .ok (.aload_n 0, 1) := F_CM_join_0.1
theorem d_CM_join_1 : decode prog_1_method_35_code 1 = .ok (.getfield 12, 3) := F_CM_join_0.2.1
theorem d_CM_join_4 : decode prog_1_method_35_code 4 = .ok (.iload_n 1, 1) := F_CM_join_0.2.2.1
theorem d_CM_join_5 : decode prog_1_method_35_code 5 = .ok (.invokevirtual 160, 3) := F_CM_join_0.2.2.2.1
theorem d_CM_join_8 : decode prog_1_method_35_code 8 = .ok (.ifCond .eq (21), 3) := F_CM_join_0.2.2.2.2.1
theorem F_CM_join_29 : Jvm.Free.DS.Facts prog_1_method_35_code 29 [(.ldc2_w 270, 3), (.lreturn, 1)] := Jvm.Free.DS.facts 29 _ (by decide +kernel) (by decide +kernel)
theorem d_CM_join_29 : decode prog_1_method_35_code 29 = .ok (.ldc2_w 270, 3) := F_CM_join_29.1
theorem d_CM_join_32 : decode prog_1_method_35_code 32 = .ok (.lreturn, 1) := F_CM_join_29.2.1
theorem F_MD_join_0 : Jvm.Free.DS.Facts prog_12_method_93_code 0 [(.aload_n 0, 1), (.iconst 0, 1), (.putfield 74, 3), (.aload_n 0, 1), (.iload_n 1, 1), (.invokevirtual 247, 3), (.ifCond .eq (18), 3)] := Jvm.Free.DS.facts 0 _ (by decide +kernel) (by decide +kernel)
theorem d_MD_join_0 : decode prog_12_method_93_code 0 = .ok (.aload_n 0, 1) := F_MD_join_0.1
theorem d_MD_join_1 : decode prog_12_method_93_code 1 = .ok (.iconst 0, 1) := F_MD_join_0.2.1
theorem d_MD_join_2 : decode prog_12_method_93_code 2 = .ok (.putfield 74, 3) := F_MD_join_0.2.2.1
theorem d_MD_join_5 : decode prog_12_method_93_code 5 = .ok (.aload_n 0, 1) := F_MD_join_0.2.2.2.1
theorem d_MD_join_6 : decode prog_12_method_93_code 6 = .ok (.iload_n 1, 1) := F_MD_join_0.2.2.2.2.1
theorem d_MD_join_7 : decode prog_12_method_93_code 7 = .ok (.invokevirtual 247, 3) := F_MD_join_0.2.2.2.2.2.1
theorem d_MD_join_10 : decode prog_12_method_93_code 10 = .ok (.ifCond .eq (18), 3) := F_MD_join_0.2.2.2.2.2.2.1
theorem F_MD_join_28 : Jvm.Free.DS.Facts prog_12_method_93_code 28 [(.ldc2_w 307, 3), (.lreturn, 1)] := Jvm.Free.DS.facts 28 _ (by decide +kernel) (by decide +kernel)
theorem d_MD_join_28 : decode prog_12_method_93_code 28 = .ok (.ldc2_w 307, 3) := F_MD_join_28.1
theorem d_MD_join_31 : decode prog_12_method_93_code 31 = .ok (.lreturn, 1) := F_MD_join_28.2.1
theorem F_CM_inLine_0 : Jvm.Free.DS.Facts prog_1_method_36_code 0 [(.aload_n 0, 1), (.getfield 12, 3), (.iload_n 1, 1), (.invokevirtual 160, 3), (.ifCond .eq (25), 3)] := Jvm.Free.DS.facts 0 _ (by decide +kernel) (by decide +kernel)
theorem d_CM_inLine_0 : decode prog_1_method_36_code 0 = .ok (.aload_n 0, 1) := F_CM_inLine_0.1
theorem d_CM_inLine_1 : decode prog_1_method_36_code 1 = .ok (.getfield 12, 3) := F_CM_inLine_0.2.1
theorem d_CM_inLine_4 : decode prog_1_method_36_code 4 = .ok (.iload_n 1, 1) := F_CM_inLine_0.2.2.1
theorem d_CM_inLine_5 : decode prog_1_method_36_code 5 = .ok (.invokevirtual 160, 3) := F_CM_inLine_0.2.2.2.1
theorem d_CM_inLine_8 : decode prog_1_method_36_code 8 = .ok (.ifCond .eq (25), 3) := F_CM_inLine_0.2.2.2.2.1
theorem F_CM_inLine_33 : Jvm.Free.DS.Facts prog_1_method_36_code 33 [(.iconst (-1), 1), (.ireturn, 1)] := Jvm.Free.DS.facts 33 _ (by decide +kernel) (by decide +kernel)
theorem d_CM_inLine_33 : decode prog_1_method_36_code 33 = .ok (.iconst (-1), 1) := F_CM_inLine_33.1
theorem d_CM_inLine_34 : decode prog_1_method_36_code 34 = .ok (.ireturn, 1) := F_CM_inLine_33.2.1
theorem F_MD_inLine_0 : Jvm.Free.DS.Facts prog_12_method_95_code 0 [(.aload_n 0, 1), (.iconst 0, 1), (.putfield 74, 3), (.aload_n 0, 1), (.iload_n 1, 1), (.invokevirtual 247, 3), (.ifCond .eq (19), 3)] := Jvm.Free.DS.facts 0 _ (by decide +kernel) (by decide +kernel)
theorem d_MD_inLine_0 : decode prog_12_method_95_code 0 = .ok (.aload_n 0, 1) := F_MD_inLine_0.1
theorem d_MD_inLine_1 : decode prog_12_method_95_code 1 = .ok (.iconst 0, 1) := F_MD_inLine_0.2.1
theorem d_MD_inLine_2 : decode prog_12_method_95_code 2 = .ok (.putfield 74, 3) := F_MD_inLine_0.2.2.1
theorem d_MD_inLine_5 : decode prog_12_method_95_code 5 = .ok (.aload_n 0, 1) := F_MD_inLine_0.2.2.2.1
theorem d_MD_inLine_6 : decode prog_12_method_95_code 6 = .ok (.iload_n 1, 1) := F_MD_inLine_0.2.2.2.2.1
theorem d_MD_inLine_7 : decode prog_12_method_95_code 7 = .ok (.invokevirtual 247, 3) := F_MD_inLine_0.2.2.2.2.2.1
theorem d_MD_inLine_10 : decode prog_12_method_95_code 10 = .ok (.ifCond .eq (19), 3) := F_MD_inLine_0.2.2.2.2.2.2.1
theorem F_MD_inLine_29 : Jvm.Free.DS.Facts prog_12_method_95_code 29 [(.iconst (-1), 1), (.ireturn, 1)] := Jvm.Free.DS.facts 29 _ (by decide +kernel) (by decide +kernel)
theorem d_MD_inLine_29 : decode prog_12_method_95_code 29 = .ok (.iconst (-1), 1) := F_MD_inLine_29.1
theorem d_MD_inLine_30 : decode prog_12_method_95_code 30 = .ok (.ireturn, 1) := F_MD_inLine_29.2.1
theorem F_CM_meet_0 : Jvm.Free.DS.Facts prog_1_method_37_code 0 [(.aload_n 0, 1), (.iload_n 1, 1), (.iload_n 2, 1), (.iload_n 3, 1), (.iload 4, 2), (.invokevirtual 330, 3), (.ifCond .eq (11), 3)] := Jvm.Free.DS.facts 0 _ (by decide +kernel) (by decide +kernel)
theorem d_CM_meet_0 : decode prog_1_method_37_code 0 = .ok (.aload_n 0, 1) := F_CM_meet_0.1
theorem d_CM_meet_1 : decode prog_1_method_37_code 1 = .ok (.iload_n 1, 1) := F_CM_meet_0.2.1
theorem d_CM_meet_2 : decode prog_1_method_37_code 2 = .ok (.iload_n 2, 1) := F_CM_meet_0.2.2.1
theorem d_CM_meet_3 : decode prog_1_method_37_code 3 = .ok (.iload_n 3, 1) := F_CM_meet_0.2.2.2.1
theorem d_CM_meet_4 : decode prog_1_method_37_code 4 = .ok (.iload 4, 2) := F_CM_meet_0.2.2.2.2.1
theorem d_CM_meet_6 : decode prog_1_method_37_code 6 = .ok (.invokevirtual 330, 3) := F_CM_meet_0.2.2.2.2.2.1
theorem d_CM_meet_9 : decode prog_1_method_37_code 9 = .ok (.ifCond .eq (11), 3) := F_CM_meet_0.2.2.2.2.2.2.1
theorem F_CM_meet_20 : Jvm.Free.DS.Facts prog_1_method_37_code 20 [(.ldc2_w 270, 3), (.lreturn, 1)] := Jvm.Free.DS.facts 20 _ (by decide +kernel) (by decide +kernel)
theorem d_CM_meet_20 : decode prog_1_method_37_code 20 = .ok (.ldc2_w 270, 3) := F_CM_meet_20.1
theorem d_CM_meet_23 : decode prog_1_method_37_code 23 = .ok (.lreturn, 1) := F_CM_meet_20.2.1
theorem F_CM_arePoints_0 : Jvm.Free.DS.Facts prog_1_method_83_code 0 [(.aload_n 0, 1), (.getfield 12, 3), (.iload_n 1, 1), (.invokevirtual 160, 3), (.ifCond .eq (41), 3)] := Jvm.Free.DS.facts 0 _ (by decide +kernel) (by decide +kernel)
theorem d_CM_arePoints_0 : decode prog_1_method_83_code 0 = .ok (.aload_n 0, 1) := F_CM_arePoints_0.1
theorem d_CM_arePoints_1 : decode prog_1_method_83_code 1 = .ok (.getfield 12, 3) := F_CM_arePoints_0.2.1
theorem d_CM_arePoints_4 : decode prog_1_method_83_code 4 = .ok (.iload_n 1, 1) := F_CM_arePoints_0.2.2.1
theorem d_CM_arePoints_5 : decode prog_1_method_83_code 5 = .ok (.invokevirtual 160, 3) := F_CM_arePoints_0.2.2.2.1
theorem d_CM_arePoints_8 : decode prog_1_method_83_code 8 = .ok (.ifCond .eq (41), 3) := F_CM_arePoints_0.2.2.2.2.1
theorem F_CM_arePoints_49 : Jvm.Free.DS.Facts prog_1_method_83_code 49 [(.iconst 0, 1), (.ireturn, 1)] := Jvm.Free.DS.facts 49 _ (by decide +kernel) (by decide +kernel)
theorem d_CM_arePoints_49 : decode prog_1_method_83_code 49 = .ok (.iconst 0, 1) := F_CM_arePoints_49.1
theorem d_CM_arePoints_50 : decode prog_1_method_83_code 50 = .ok (.ireturn, 1) := F_CM_arePoints_49.2.1
theorem F_MD_meet_0 : Jvm.Free.DS.Facts prog_12_method_96_code 0 [(.aload_n 0, 1), (.iconst 0, 1), (.putfield 74, 3), (.aload_n 0, 1), (.iload_n 1, 1), (.invokevirtual 247, 3), (.ifCond .eq (36), 3)] := Jvm.Free.DS.facts 0 _ (by decide +kernel) (by decide +kernel)
theorem d_MD_meet_0 : decode prog_12_method_96_code 0 = .ok (.aload_n 0, 1) := F_MD_meet_0.1
theorem d_MD_meet_1 : decode prog_12_method_96_code 1 = .ok (.iconst 0, 1) := F_MD_meet_0.2.1
theorem d_MD_meet_2 : decode prog_12_method_96_code 2 = .ok (.putfield 74, 3) := F_MD_meet_0.2.2.1
theorem d_MD_meet_5 : decode prog_12_method_96_code 5 = .ok (.aload_n 0, 1) := F_MD_meet_0.2.2.2.1
theorem d_MD_meet_6 : decode prog_12_method_96_code 6 = .ok (.iload_n 1, 1) := F_MD_meet_0.2.2.2.2.1
theorem d_MD_meet_7 : decode prog_12_method_96_code 7 = .ok (.invokevirtual 247, 3) := F_MD_meet_0.2.2.2.2.2.1
theorem d_MD_meet_10 : decode prog_12_method_96_code 10 = .ok (.ifCond .eq (36), 3) := F_MD_meet_0.2.2.2.2.2.2.1
theorem F_MD_meet_46 : Jvm.Free.DS.Facts prog_12_method_96_code 46 [(.ldc2_w 307, 3), (.lreturn, 1)] := Jvm.Free.DS.facts 46 _ (by decide +kernel) (by decide +kernel)
theorem d_MD_meet_46 : decode prog_12_method_96_code 46 = .ok (.ldc2_w 307, 3) := F_MD_meet_46.1
theorem d_MD_meet_49 : decode prog_12_method_96_code 49 = .ok (.lreturn, 1) := F_MD_meet_46.2.1
theorem F_CM_share_0 : Jvm.Free.DS.Facts prog_1_method_38_code 0 [(.aload_n 0, 1), (.iload_n 1, 1), (.iload_n 2, 1), (.iload_n 3, 1), (.iload 4, 2), (.invokevirtual 330, 3), (.ifCond .eq (11), 3)] := Jvm.Free.DS.facts 0 _ (by decide +kernel) (by decide +kernel)
theorem d_CM_share_0 : decode prog_1_method_38_code 0 = .ok (.aload_n 0, 1) := F_CM_share_0.1
theorem d_CM_share_1 : decode prog_1_method_38_code 1 = .ok (.iload_n 1, 1) := F_CM_share_0.2.1
theorem d_CM_share_2 : decode prog_1_method_38_code 2 = .ok (.iload_n 2, 1) := F_CM_share_0.2.2.1
theorem d_CM_share_3 : decode prog_1_method_38_code 3 = .ok (.iload_n 3, 1) := F_CM_share_0.2.2.2.1
theorem d_CM_share_4 : decode prog_1_method_38_code 4 = .ok (.iload 4, 2) := F_CM_share_0.2.2.2.2.1
theorem d_CM_share_6 : decode prog_1_method_38_code 6 = .ok (.invokevirtual 330, 3) := F_CM_share_0.2.2.2.2.2.1
theorem d_CM_share_9 : decode prog_1_method_38_code 9 = .ok (.ifCond .eq (11), 3) := F_CM_share_0.2.2.2.2.2.2.1
theorem F_CM_share_20 : Jvm.Free.DS.Facts prog_1_method_38_code 20 [(.ldc2_w 270, 3), (.lreturn, 1)] := Jvm.Free.DS.facts 20 _ (by decide +kernel) (by decide +kernel)
theorem d_CM_share_20 : decode prog_1_method_38_code 20 = .ok (.ldc2_w 270, 3) := F_CM_share_20.1
theorem d_CM_share_23 : decode prog_1_method_38_code 23 = .ok (.lreturn, 1) := F_CM_share_20.2.1
theorem F_MD_share_0 : Jvm.Free.DS.Facts prog_12_method_100_code 0 [(.aload_n 0, 1), (.iconst 0, 1), (.putfield 74, 3), (.aload_n 0, 1), (.iload_n 1, 1), (.invokevirtual 247, 3), (.ifCond .eq (39), 3)] := Jvm.Free.DS.facts 0 _ (by decide +kernel) (by decide +kernel)
theorem d_MD_share_0 : decode prog_12_method_100_code 0 = .ok (.aload_n 0, 1) := F_MD_share_0.1
theorem d_MD_share_1 : decode prog_12_method_100_code 1 = .ok (.iconst 0, 1) := F_MD_share_0.2.1
theorem d_MD_share_2 : decode prog_12_method_100_code 2 = .ok (.putfield 74, 3) := F_MD_share_0.2.2.1
theorem d_MD_share_5 : decode prog_12_method_100_code 5 = .ok (.aload_n 0, 1) := F_MD_share_0.2.2.2.1
theorem d_MD_share_6 : decode prog_12_method_100_code 6 = .ok (.iload_n 1, 1) := F_MD_share_0.2.2.2.2.1
theorem d_MD_share_7 : decode prog_12_method_100_code 7 = .ok (.invokevirtual 247, 3) := F_MD_share_0.2.2.2.2.2.1
theorem d_MD_share_10 : decode prog_12_method_100_code 10 = .ok (.ifCond .eq (39), 3) := F_MD_share_0.2.2.2.2.2.2.1
theorem F_MD_share_49 : Jvm.Free.DS.Facts prog_12_method_100_code 49 [(.ldc2_w 307, 3), (.lreturn, 1)] := Jvm.Free.DS.facts 49 _ (by decide +kernel) (by decide +kernel)
theorem d_MD_share_49 : decode prog_12_method_100_code 49 = .ok (.ldc2_w 307, 3) := F_MD_share_49.1
theorem d_MD_share_52 : decode prog_12_method_100_code 52 = .ok (.lreturn, 1) := F_MD_share_49.2.1
theorem F_CM_fourth_0 : Jvm.Free.DS.Facts prog_1_method_39_code 0 [(.aload_n 0, 1), (.iload_n 1, 1), (.iload_n 2, 1), (.iload_n 3, 1), (.iload_n 3, 1), (.invokevirtual 330, 3), (.ifCond .eq (11), 3)] := Jvm.Free.DS.facts 0 _ (by decide +kernel) (by decide +kernel)
theorem d_CM_fourth_0 : decode prog_1_method_39_code 0 = .ok (.aload_n 0, 1) := F_CM_fourth_0.1
theorem d_CM_fourth_1 : decode prog_1_method_39_code 1 = .ok (.iload_n 1, 1) := F_CM_fourth_0.2.1
theorem d_CM_fourth_2 : decode prog_1_method_39_code 2 = .ok (.iload_n 2, 1) := F_CM_fourth_0.2.2.1
theorem d_CM_fourth_3 : decode prog_1_method_39_code 3 = .ok (.iload_n 3, 1) := F_CM_fourth_0.2.2.2.1
theorem d_CM_fourth_4 : decode prog_1_method_39_code 4 = .ok (.iload_n 3, 1) := F_CM_fourth_0.2.2.2.2.1
theorem d_CM_fourth_5 : decode prog_1_method_39_code 5 = .ok (.invokevirtual 330, 3) := F_CM_fourth_0.2.2.2.2.2.1
theorem d_CM_fourth_8 : decode prog_1_method_39_code 8 = .ok (.ifCond .eq (11), 3) := F_CM_fourth_0.2.2.2.2.2.2.1
theorem F_CM_fourth_19 : Jvm.Free.DS.Facts prog_1_method_39_code 19 [(.ldc2_w 270, 3), (.lreturn, 1)] := Jvm.Free.DS.facts 19 _ (by decide +kernel) (by decide +kernel)
theorem d_CM_fourth_19 : decode prog_1_method_39_code 19 = .ok (.ldc2_w 270, 3) := F_CM_fourth_19.1
theorem d_CM_fourth_22 : decode prog_1_method_39_code 22 = .ok (.lreturn, 1) := F_CM_fourth_19.2.1
theorem F_MD_fourth_0 : Jvm.Free.DS.Facts prog_12_method_101_code 0 [(.aload_n 0, 1), (.iconst 0, 1), (.putfield 74, 3), (.aload_n 0, 1), (.iload_n 1, 1), (.invokevirtual 247, 3), (.ifCond .eq (27), 3)] := Jvm.Free.DS.facts 0 _ (by decide +kernel) (by decide +kernel)
theorem d_MD_fourth_0 : decode prog_12_method_101_code 0 = .ok (.aload_n 0, 1) := F_MD_fourth_0.1
theorem d_MD_fourth_1 : decode prog_12_method_101_code 1 = .ok (.iconst 0, 1) := F_MD_fourth_0.2.1
theorem d_MD_fourth_2 : decode prog_12_method_101_code 2 = .ok (.putfield 74, 3) := F_MD_fourth_0.2.2.1
theorem d_MD_fourth_5 : decode prog_12_method_101_code 5 = .ok (.aload_n 0, 1) := F_MD_fourth_0.2.2.2.1
theorem d_MD_fourth_6 : decode prog_12_method_101_code 6 = .ok (.iload_n 1, 1) := F_MD_fourth_0.2.2.2.2.1
theorem d_MD_fourth_7 : decode prog_12_method_101_code 7 = .ok (.invokevirtual 247, 3) := F_MD_fourth_0.2.2.2.2.2.1
theorem d_MD_fourth_10 : decode prog_12_method_101_code 10 = .ok (.ifCond .eq (27), 3) := F_MD_fourth_0.2.2.2.2.2.2.1
theorem F_MD_fourth_37 : Jvm.Free.DS.Facts prog_12_method_101_code 37 [(.ldc2_w 307, 3), (.lreturn, 1)] := Jvm.Free.DS.facts 37 _ (by decide +kernel) (by decide +kernel)
theorem d_MD_fourth_37 : decode prog_12_method_101_code 37 = .ok (.ldc2_w 307, 3) := F_MD_fourth_37.1
theorem d_MD_fourth_40 : decode prog_12_method_101_code 40 = .ok (.lreturn, 1) := F_MD_fourth_37.2.1
theorem F_CM_track_0 : Jvm.Free.DS.Facts prog_1_method_40_code 0 [(.aload_n 0, 1), (.getfield 12, 3), (.iload_n 1, 1), (.invokevirtual 151, 3), (.ifCond .eq (32), 3)] := Jvm.Free.DS.facts 0 _ (by decide +kernel) (by decide +kernel)
theorem d_CM_track_0 : decode prog_1_method_40_code 0 = .ok (.aload_n 0, 1) := F_CM_track_0.1
theorem d_CM_track_1 : decode prog_1_method_40_code 1 = .ok (.getfield 12, 3) := F_CM_track_0.2.1
theorem d_CM_track_4 : decode prog_1_method_40_code 4 = .ok (.iload_n 1, 1) := F_CM_track_0.2.2.1
theorem d_CM_track_5 : decode prog_1_method_40_code 5 = .ok (.invokevirtual 151, 3) := F_CM_track_0.2.2.2.1
theorem d_CM_track_8 : decode prog_1_method_40_code 8 = .ok (.ifCond .eq (32), 3) := F_CM_track_0.2.2.2.2.1
theorem F_CM_track_40 : Jvm.Free.DS.Facts prog_1_method_40_code 40 [(.ldc2_w 270, 3), (.lreturn, 1)] := Jvm.Free.DS.facts 40 _ (by decide +kernel) (by decide +kernel)
theorem d_CM_track_40 : decode prog_1_method_40_code 40 = .ok (.ldc2_w 270, 3) := F_CM_track_40.1
theorem d_CM_track_43 : decode prog_1_method_40_code 43 = .ok (.lreturn, 1) := F_CM_track_40.2.1
theorem F_MD_track_0 : Jvm.Free.DS.Facts prog_12_method_105_code 0 [(.aload_n 0, 1), (.iconst 0, 1), (.putfield 74, 3), (.aload_n 0, 1), (.iload_n 1, 1), (.invokevirtual 241, 3), (.ifCond .eq (29), 3)] := Jvm.Free.DS.facts 0 _ (by decide +kernel) (by decide +kernel)
theorem d_MD_track_0 : decode prog_12_method_105_code 0 = .ok (.aload_n 0, 1) := F_MD_track_0.1
theorem d_MD_track_1 : decode prog_12_method_105_code 1 = .ok (.iconst 0, 1) := F_MD_track_0.2.1
theorem d_MD_track_2 : decode prog_12_method_105_code 2 = .ok (.putfield 74, 3) := F_MD_track_0.2.2.1
theorem d_MD_track_5 : decode prog_12_method_105_code 5 = .ok (.aload_n 0, 1) := F_MD_track_0.2.2.2.1
theorem d_MD_track_6 : decode prog_12_method_105_code 6 = .ok (.iload_n 1, 1) := F_MD_track_0.2.2.2.2.1
theorem d_MD_track_7 : decode prog_12_method_105_code 7 = .ok (.invokevirtual 241, 3) := F_MD_track_0.2.2.2.2.2.1
theorem d_MD_track_10 : decode prog_12_method_105_code 10 = .ok (.ifCond .eq (29), 3) := F_MD_track_0.2.2.2.2.2.2.1
theorem F_MD_track_39 : Jvm.Free.DS.Facts prog_12_method_105_code 39 [(.ldc2_w 307, 3), (.lreturn, 1)] := Jvm.Free.DS.facts 39 _ (by decide +kernel) (by decide +kernel)
theorem d_MD_track_39 : decode prog_12_method_105_code 39 = .ok (.ldc2_w 307, 3) := F_MD_track_39.1
theorem d_MD_track_42 : decode prog_12_method_105_code 42 = .ok (.lreturn, 1) := F_MD_track_39.2.1
theorem F_CM_cycle_0 : Jvm.Free.DS.Facts prog_1_method_41_code 0 [(.aload_n 0, 1), (.getfield 12, 3), (.iload_n 1, 1), (.invokevirtual 151, 3), (.ifCond .eq (14), 3)] := Jvm.Free.DS.facts 0 _ (by decide +kernel) (by decide +kernel)
theorem d_CM_cycle_0 : decode prog_1_method_41_code 0 = .ok (.aload_n 0, 1) := F_CM_cycle_0.1
theorem d_CM_cycle_1 : decode prog_1_method_41_code 1 = .ok (.getfield 12, 3) := F_CM_cycle_0.2.1
theorem d_CM_cycle_4 : decode prog_1_method_41_code 4 = .ok (.iload_n 1, 1) := F_CM_cycle_0.2.2.1
theorem d_CM_cycle_5 : decode prog_1_method_41_code 5 = .ok (.invokevirtual 151, 3) := F_CM_cycle_0.2.2.2.1
theorem d_CM_cycle_8 : decode prog_1_method_41_code 8 = .ok (.ifCond .eq (14), 3) := F_CM_cycle_0.2.2.2.2.1
theorem F_CM_cycle_22 : Jvm.Free.DS.Facts prog_1_method_41_code 22 [(.iconst (-1), 1), (.ireturn, 1)] := Jvm.Free.DS.facts 22 _ (by decide +kernel) (by decide +kernel)
theorem d_CM_cycle_22 : decode prog_1_method_41_code 22 = .ok (.iconst (-1), 1) := F_CM_cycle_22.1
theorem d_CM_cycle_23 : decode prog_1_method_41_code 23 = .ok (.ireturn, 1) := F_CM_cycle_22.2.1
theorem F_MD_cycle_0 : Jvm.Free.DS.Facts prog_12_method_106_code 0 [(.aload_n 0, 1), (.iconst 0, 1), (.putfield 74, 3), (.aload_n 0, 1), (.iload_n 1, 1), (.invokevirtual 241, 3), (.ifCond .eq (11), 3)] := Jvm.Free.DS.facts 0 _ (by decide +kernel) (by decide +kernel)
theorem d_MD_cycle_0 : decode prog_12_method_106_code 0 = .ok (.aload_n 0, 1) := F_MD_cycle_0.1
theorem d_MD_cycle_1 : decode prog_12_method_106_code 1 = .ok (.iconst 0, 1) := F_MD_cycle_0.2.1
theorem d_MD_cycle_2 : decode prog_12_method_106_code 2 = .ok (.putfield 74, 3) := F_MD_cycle_0.2.2.1
theorem d_MD_cycle_5 : decode prog_12_method_106_code 5 = .ok (.aload_n 0, 1) := F_MD_cycle_0.2.2.2.1
theorem d_MD_cycle_6 : decode prog_12_method_106_code 6 = .ok (.iload_n 1, 1) := F_MD_cycle_0.2.2.2.2.1
theorem d_MD_cycle_7 : decode prog_12_method_106_code 7 = .ok (.invokevirtual 241, 3) := F_MD_cycle_0.2.2.2.2.2.1
theorem d_MD_cycle_10 : decode prog_12_method_106_code 10 = .ok (.ifCond .eq (11), 3) := F_MD_cycle_0.2.2.2.2.2.2.1
theorem F_MD_cycle_21 : Jvm.Free.DS.Facts prog_12_method_106_code 21 [(.iconst (-1), 1), (.ireturn, 1)] := Jvm.Free.DS.facts 21 _ (by decide +kernel) (by decide +kernel)
theorem d_MD_cycle_21 : decode prog_12_method_106_code 21 = .ok (.iconst (-1), 1) := F_MD_cycle_21.1
theorem d_MD_cycle_22 : decode prog_12_method_106_code 22 = .ok (.ireturn, 1) := F_MD_cycle_21.2.1
theorem F_CM_whole_0 : Jvm.Free.DS.Facts prog_1_method_42_code 0 [(.aload_n 0, 1), (.getfield 12, 3), (.iload_n 1, 1), (.invokevirtual 151, 3), (.ifCond .eq (13), 3)] := Jvm.Free.DS.facts 0 _ (by decide +kernel) (by decide +kernel)
theorem d_CM_whole_0 : decode prog_1_method_42_code 0 = .ok (.aload_n 0, 1) := F_CM_whole_0.1
theorem d_CM_whole_1 : decode prog_1_method_42_code 1 = .ok (.getfield 12, 3) := F_CM_whole_0.2.1
theorem d_CM_whole_4 : decode prog_1_method_42_code 4 = .ok (.iload_n 1, 1) := F_CM_whole_0.2.2.1
theorem d_CM_whole_5 : decode prog_1_method_42_code 5 = .ok (.invokevirtual 151, 3) := F_CM_whole_0.2.2.2.1
theorem d_CM_whole_8 : decode prog_1_method_42_code 8 = .ok (.ifCond .eq (13), 3) := F_CM_whole_0.2.2.2.2.1
theorem F_CM_whole_21 : Jvm.Free.DS.Facts prog_1_method_42_code 21 [(.iconst (-1), 1), (.ireturn, 1)] := Jvm.Free.DS.facts 21 _ (by decide +kernel) (by decide +kernel)
theorem d_CM_whole_21 : decode prog_1_method_42_code 21 = .ok (.iconst (-1), 1) := F_CM_whole_21.1
theorem d_CM_whole_22 : decode prog_1_method_42_code 22 = .ok (.ireturn, 1) := F_CM_whole_21.2.1
theorem F_MD_whole_0 : Jvm.Free.DS.Facts prog_12_method_108_code 0 [(.aload_n 0, 1), (.iconst 0, 1), (.putfield 74, 3), (.aload_n 0, 1), (.iload_n 1, 1), (.invokevirtual 241, 3), (.ifCond .eq (13), 3)] := Jvm.Free.DS.facts 0 _ (by decide +kernel) (by decide +kernel)
theorem d_MD_whole_0 : decode prog_12_method_108_code 0 = .ok (.aload_n 0, 1) := F_MD_whole_0.1
theorem d_MD_whole_1 : decode prog_12_method_108_code 1 = .ok (.iconst 0, 1) := F_MD_whole_0.2.1
theorem d_MD_whole_2 : decode prog_12_method_108_code 2 = .ok (.putfield 74, 3) := F_MD_whole_0.2.2.1
theorem d_MD_whole_5 : decode prog_12_method_108_code 5 = .ok (.aload_n 0, 1) := F_MD_whole_0.2.2.2.1
theorem d_MD_whole_6 : decode prog_12_method_108_code 6 = .ok (.iload_n 1, 1) := F_MD_whole_0.2.2.2.2.1
theorem d_MD_whole_7 : decode prog_12_method_108_code 7 = .ok (.invokevirtual 241, 3) := F_MD_whole_0.2.2.2.2.2.1
theorem d_MD_whole_10 : decode prog_12_method_108_code 10 = .ok (.ifCond .eq (13), 3) := F_MD_whole_0.2.2.2.2.2.2.1
theorem F_MD_whole_23 : Jvm.Free.DS.Facts prog_12_method_108_code 23 [(.iconst (-1), 1), (.ireturn, 1)] := Jvm.Free.DS.facts 23 _ (by decide +kernel) (by decide +kernel)
theorem d_MD_whole_23 : decode prog_12_method_108_code 23 = .ok (.iconst (-1), 1) := F_MD_whole_23.1
theorem d_MD_whole_24 : decode prog_12_method_108_code 24 = .ok (.ireturn, 1) := F_MD_whole_23.2.1
theorem F_CM_inside_0 : Jvm.Free.DS.Facts prog_1_method_43_code 0 [(.aload_n 0, 1), (.getfield 12, 3), (.iload_n 1, 1), (.invokevirtual 127, 3), (.ifCond .eq (14), 3)] := Jvm.Free.DS.facts 0 _ (by decide +kernel) (by decide +kernel)
theorem d_CM_inside_0 : decode prog_1_method_43_code 0 = .ok (.aload_n 0, 1) := F_CM_inside_0.1
theorem d_CM_inside_1 : decode prog_1_method_43_code 1 = .ok (.getfield 12, 3) := F_CM_inside_0.2.1
theorem d_CM_inside_4 : decode prog_1_method_43_code 4 = .ok (.iload_n 1, 1) := F_CM_inside_0.2.2.1
theorem d_CM_inside_5 : decode prog_1_method_43_code 5 = .ok (.invokevirtual 127, 3) := F_CM_inside_0.2.2.2.1
theorem d_CM_inside_8 : decode prog_1_method_43_code 8 = .ok (.ifCond .eq (14), 3) := F_CM_inside_0.2.2.2.2.1
theorem F_CM_inside_22 : Jvm.Free.DS.Facts prog_1_method_43_code 22 [(.iconst (-1), 1), (.ireturn, 1)] := Jvm.Free.DS.facts 22 _ (by decide +kernel) (by decide +kernel)
theorem d_CM_inside_22 : decode prog_1_method_43_code 22 = .ok (.iconst (-1), 1) := F_CM_inside_22.1
theorem d_CM_inside_23 : decode prog_1_method_43_code 23 = .ok (.ireturn, 1) := F_CM_inside_22.2.1
theorem F_MD_inside_0 : Jvm.Free.DS.Facts prog_12_method_112_code 0 [(.aload_n 0, 1), (.iconst 0, 1), (.putfield 74, 3), (.aload_n 0, 1), (.iload_n 1, 1), (.invokevirtual 238, 3), (.ifCond .eq (11), 3)] := Jvm.Free.DS.facts 0 _ (by decide +kernel) (by decide +kernel)
theorem d_MD_inside_0 : decode prog_12_method_112_code 0 = .ok (.aload_n 0, 1) := F_MD_inside_0.1
theorem d_MD_inside_1 : decode prog_12_method_112_code 1 = .ok (.iconst 0, 1) := F_MD_inside_0.2.1
theorem d_MD_inside_2 : decode prog_12_method_112_code 2 = .ok (.putfield 74, 3) := F_MD_inside_0.2.2.1
theorem d_MD_inside_5 : decode prog_12_method_112_code 5 = .ok (.aload_n 0, 1) := F_MD_inside_0.2.2.2.1
theorem d_MD_inside_6 : decode prog_12_method_112_code 6 = .ok (.iload_n 1, 1) := F_MD_inside_0.2.2.2.2.1
theorem d_MD_inside_7 : decode prog_12_method_112_code 7 = .ok (.invokevirtual 238, 3) := F_MD_inside_0.2.2.2.2.2.1
theorem d_MD_inside_10 : decode prog_12_method_112_code 10 = .ok (.ifCond .eq (11), 3) := F_MD_inside_0.2.2.2.2.2.2.1
theorem F_MD_inside_21 : Jvm.Free.DS.Facts prog_12_method_112_code 21 [(.iconst (-1), 1), (.ireturn, 1)] := Jvm.Free.DS.facts 21 _ (by decide +kernel) (by decide +kernel)
theorem d_MD_inside_21 : decode prog_12_method_112_code 21 = .ok (.iconst (-1), 1) := F_MD_inside_21.1
theorem d_MD_inside_22 : decode prog_12_method_112_code 22 = .ok (.ireturn, 1) := F_MD_inside_21.2.1
theorem F_CM_crossings_0 : Jvm.Free.DS.Facts prog_1_method_44_code 0 [(.aload_n 0, 1), (.getfield 12, 3), (.iload_n 1, 1), (.invokevirtual 127, 3), (.ifCond .eq (14), 3)] := Jvm.Free.DS.facts 0 _ (by decide +kernel) (by decide +kernel)
theorem d_CM_crossings_0 : decode prog_1_method_44_code 0 = .ok (.aload_n 0, 1) := F_CM_crossings_0.1
theorem d_CM_crossings_1 : decode prog_1_method_44_code 1 = .ok (.getfield 12, 3) := F_CM_crossings_0.2.1
theorem d_CM_crossings_4 : decode prog_1_method_44_code 4 = .ok (.iload_n 1, 1) := F_CM_crossings_0.2.2.1
theorem d_CM_crossings_5 : decode prog_1_method_44_code 5 = .ok (.invokevirtual 127, 3) := F_CM_crossings_0.2.2.2.1
theorem d_CM_crossings_8 : decode prog_1_method_44_code 8 = .ok (.ifCond .eq (14), 3) := F_CM_crossings_0.2.2.2.2.1
theorem F_CM_crossings_22 : Jvm.Free.DS.Facts prog_1_method_44_code 22 [(.iconst (-1), 1), (.ireturn, 1)] := Jvm.Free.DS.facts 22 _ (by decide +kernel) (by decide +kernel)
theorem d_CM_crossings_22 : decode prog_1_method_44_code 22 = .ok (.iconst (-1), 1) := F_CM_crossings_22.1
theorem d_CM_crossings_23 : decode prog_1_method_44_code 23 = .ok (.ireturn, 1) := F_CM_crossings_22.2.1
theorem F_MD_crossings_0 : Jvm.Free.DS.Facts prog_12_method_116_code 0 [(.aload_n 0, 1), (.iconst 0, 1), (.putfield 74, 3), (.aload_n 0, 1), (.iload_n 1, 1), (.invokevirtual 238, 3), (.ifCond .eq (11), 3)] := Jvm.Free.DS.facts 0 _ (by decide +kernel) (by decide +kernel)
theorem d_MD_crossings_0 : decode prog_12_method_116_code 0 = .ok (.aload_n 0, 1) := F_MD_crossings_0.1
theorem d_MD_crossings_1 : decode prog_12_method_116_code 1 = .ok (.iconst 0, 1) := F_MD_crossings_0.2.1
theorem d_MD_crossings_2 : decode prog_12_method_116_code 2 = .ok (.putfield 74, 3) := F_MD_crossings_0.2.2.1
theorem d_MD_crossings_5 : decode prog_12_method_116_code 5 = .ok (.aload_n 0, 1) := F_MD_crossings_0.2.2.2.1
theorem d_MD_crossings_6 : decode prog_12_method_116_code 6 = .ok (.iload_n 1, 1) := F_MD_crossings_0.2.2.2.2.1
theorem d_MD_crossings_7 : decode prog_12_method_116_code 7 = .ok (.invokevirtual 238, 3) := F_MD_crossings_0.2.2.2.2.2.1
theorem d_MD_crossings_10 : decode prog_12_method_116_code 10 = .ok (.ifCond .eq (11), 3) := F_MD_crossings_0.2.2.2.2.2.2.1
theorem F_MD_crossings_21 : Jvm.Free.DS.Facts prog_12_method_116_code 21 [(.iconst (-1), 1), (.ireturn, 1)] := Jvm.Free.DS.facts 21 _ (by decide +kernel) (by decide +kernel)
theorem d_MD_crossings_21 : decode prog_12_method_116_code 21 = .ok (.iconst (-1), 1) := F_MD_crossings_21.1
theorem d_MD_crossings_22 : decode prog_12_method_116_code 22 = .ok (.ireturn, 1) := F_MD_crossings_21.2.1
theorem F_CM_diagonal_0 : Jvm.Free.DS.Facts prog_1_method_45_code 0 [(.aload_n 0, 1), (.getfield 12, 3), (.iload_n 1, 1), (.invokevirtual 127, 3), (.ifCond .eq (17), 3)] := Jvm.Free.DS.facts 0 _ (by decide +kernel) (by decide +kernel)
theorem d_CM_diagonal_0 : decode prog_1_method_45_code 0 = .ok (.aload_n 0, 1) := F_CM_diagonal_0.1
theorem d_CM_diagonal_1 : decode prog_1_method_45_code 1 = .ok (.getfield 12, 3) := F_CM_diagonal_0.2.1
theorem d_CM_diagonal_4 : decode prog_1_method_45_code 4 = .ok (.iload_n 1, 1) := F_CM_diagonal_0.2.2.1
theorem d_CM_diagonal_5 : decode prog_1_method_45_code 5 = .ok (.invokevirtual 127, 3) := F_CM_diagonal_0.2.2.2.1
theorem d_CM_diagonal_8 : decode prog_1_method_45_code 8 = .ok (.ifCond .eq (17), 3) := F_CM_diagonal_0.2.2.2.2.1
theorem F_CM_diagonal_25 : Jvm.Free.DS.Facts prog_1_method_45_code 25 [(.ldc2_w 270, 3), (.lreturn, 1)] := Jvm.Free.DS.facts 25 _ (by decide +kernel) (by decide +kernel)
theorem d_CM_diagonal_25 : decode prog_1_method_45_code 25 = .ok (.ldc2_w 270, 3) := F_CM_diagonal_25.1
theorem d_CM_diagonal_28 : decode prog_1_method_45_code 28 = .ok (.lreturn, 1) := F_CM_diagonal_25.2.1
theorem F_MD_diagonal_0 : Jvm.Free.DS.Facts prog_12_method_119_code 0 [(.aload_n 0, 1), (.iconst 0, 1), (.putfield 74, 3), (.aload_n 0, 1), (.iload_n 1, 1), (.invokevirtual 238, 3), (.ifCond .eq (17), 3)] := Jvm.Free.DS.facts 0 _ (by decide +kernel) (by decide +kernel)
theorem d_MD_diagonal_0 : decode prog_12_method_119_code 0 = .ok (.aload_n 0, 1) := F_MD_diagonal_0.1
theorem d_MD_diagonal_1 : decode prog_12_method_119_code 1 = .ok (.iconst 0, 1) := F_MD_diagonal_0.2.1
theorem d_MD_diagonal_2 : decode prog_12_method_119_code 2 = .ok (.putfield 74, 3) := F_MD_diagonal_0.2.2.1
theorem d_MD_diagonal_5 : decode prog_12_method_119_code 5 = .ok (.aload_n 0, 1) := F_MD_diagonal_0.2.2.2.1
theorem d_MD_diagonal_6 : decode prog_12_method_119_code 6 = .ok (.iload_n 1, 1) := F_MD_diagonal_0.2.2.2.2.1
theorem d_MD_diagonal_7 : decode prog_12_method_119_code 7 = .ok (.invokevirtual 238, 3) := F_MD_diagonal_0.2.2.2.2.2.1
theorem d_MD_diagonal_10 : decode prog_12_method_119_code 10 = .ok (.ifCond .eq (17), 3) := F_MD_diagonal_0.2.2.2.2.2.2.1
theorem F_MD_diagonal_27 : Jvm.Free.DS.Facts prog_12_method_119_code 27 [(.ldc2_w 307, 3), (.lreturn, 1)] := Jvm.Free.DS.facts 27 _ (by decide +kernel) (by decide +kernel)
theorem d_MD_diagonal_27 : decode prog_12_method_119_code 27 = .ok (.ldc2_w 307, 3) := F_MD_diagonal_27.1
theorem d_MD_diagonal_30 : decode prog_12_method_119_code 30 = .ok (.lreturn, 1) := F_MD_diagonal_27.2.1
theorem F_CM_parallel_0 : Jvm.Free.DS.Facts prog_1_method_46_code 0 [(.aload_n 0, 1), (.getfield 12, 3), (.iload_n 1, 1), (.invokevirtual 151, 3), (.ifCond .eq (14), 3)] := Jvm.Free.DS.facts 0 _ (by decide +kernel) (by decide +kernel)
theorem d_CM_parallel_0 : decode prog_1_method_46_code 0 = .ok (.aload_n 0, 1) := F_CM_parallel_0.1
theorem d_CM_parallel_1 : decode prog_1_method_46_code 1 = .ok (.getfield 12, 3) := F_CM_parallel_0.2.1
theorem d_CM_parallel_4 : decode prog_1_method_46_code 4 = .ok (.iload_n 1, 1) := F_CM_parallel_0.2.2.1
theorem d_CM_parallel_5 : decode prog_1_method_46_code 5 = .ok (.invokevirtual 151, 3) := F_CM_parallel_0.2.2.2.1
theorem d_CM_parallel_8 : decode prog_1_method_46_code 8 = .ok (.ifCond .eq (14), 3) := F_CM_parallel_0.2.2.2.2.1
theorem F_CM_parallel_22 : Jvm.Free.DS.Facts prog_1_method_46_code 22 [(.iconst (-1), 1), (.ireturn, 1)] := Jvm.Free.DS.facts 22 _ (by decide +kernel) (by decide +kernel)
theorem d_CM_parallel_22 : decode prog_1_method_46_code 22 = .ok (.iconst (-1), 1) := F_CM_parallel_22.1
theorem d_CM_parallel_23 : decode prog_1_method_46_code 23 = .ok (.ireturn, 1) := F_CM_parallel_22.2.1
theorem F_MD_parallel_0 : Jvm.Free.DS.Facts prog_12_method_120_code 0 [(.aload_n 0, 1), (.iconst 0, 1), (.putfield 74, 3), (.aload_n 0, 1), (.iload_n 1, 1), (.invokevirtual 241, 3), (.ifCond .eq (11), 3)] := Jvm.Free.DS.facts 0 _ (by decide +kernel) (by decide +kernel)
theorem d_MD_parallel_0 : decode prog_12_method_120_code 0 = .ok (.aload_n 0, 1) := F_MD_parallel_0.1
theorem d_MD_parallel_1 : decode prog_12_method_120_code 1 = .ok (.iconst 0, 1) := F_MD_parallel_0.2.1
theorem d_MD_parallel_2 : decode prog_12_method_120_code 2 = .ok (.putfield 74, 3) := F_MD_parallel_0.2.2.1
theorem d_MD_parallel_5 : decode prog_12_method_120_code 5 = .ok (.aload_n 0, 1) := F_MD_parallel_0.2.2.2.1
theorem d_MD_parallel_6 : decode prog_12_method_120_code 6 = .ok (.iload_n 1, 1) := F_MD_parallel_0.2.2.2.2.1
theorem d_MD_parallel_7 : decode prog_12_method_120_code 7 = .ok (.invokevirtual 241, 3) := F_MD_parallel_0.2.2.2.2.2.1
theorem d_MD_parallel_10 : decode prog_12_method_120_code 10 = .ok (.ifCond .eq (11), 3) := F_MD_parallel_0.2.2.2.2.2.2.1
theorem F_MD_parallel_21 : Jvm.Free.DS.Facts prog_12_method_120_code 21 [(.iconst (-1), 1), (.ireturn, 1)] := Jvm.Free.DS.facts 21 _ (by decide +kernel) (by decide +kernel)
theorem d_MD_parallel_21 : decode prog_12_method_120_code 21 = .ok (.iconst (-1), 1) := F_MD_parallel_21.1
theorem d_MD_parallel_22 : decode prog_12_method_120_code 22 = .ok (.ireturn, 1) := F_MD_parallel_21.2.1
theorem F_CM_shapeBy_0 : Jvm.Free.DS.Facts prog_1_method_47_code 0 [(.aload_n 0, 1), (.getfield 12, 3), (.iload_n 1, 1), (.invokevirtual 151, 3), (.ifCond .eq (14), 3)] := Jvm.Free.DS.facts 0 _ (by decide +kernel) (by decide +kernel)
theorem d_CM_shapeBy_0 : decode prog_1_method_47_code 0 = .ok (.aload_n 0, 1) := F_CM_shapeBy_0.1
theorem d_CM_shapeBy_1 : decode prog_1_method_47_code 1 = .ok (.getfield 12, 3) := F_CM_shapeBy_0.2.1
theorem d_CM_shapeBy_4 : decode prog_1_method_47_code 4 = .ok (.iload_n 1, 1) := F_CM_shapeBy_0.2.2.1
theorem d_CM_shapeBy_5 : decode prog_1_method_47_code 5 = .ok (.invokevirtual 151, 3) := F_CM_shapeBy_0.2.2.2.1
theorem d_CM_shapeBy_8 : decode prog_1_method_47_code 8 = .ok (.ifCond .eq (14), 3) := F_CM_shapeBy_0.2.2.2.2.1
theorem F_CM_shapeBy_22 : Jvm.Free.DS.Facts prog_1_method_47_code 22 [(.iconst (-1), 1), (.ireturn, 1)] := Jvm.Free.DS.facts 22 _ (by decide +kernel) (by decide +kernel)
theorem d_CM_shapeBy_22 : decode prog_1_method_47_code 22 = .ok (.iconst (-1), 1) := F_CM_shapeBy_22.1
theorem d_CM_shapeBy_23 : decode prog_1_method_47_code 23 = .ok (.ireturn, 1) := F_CM_shapeBy_22.2.1
theorem F_MD_shapeBy_0 : Jvm.Free.DS.Facts prog_12_method_122_code 0 [(.aload_n 0, 1), (.iconst 0, 1), (.putfield 74, 3), (.aload_n 0, 1), (.iload_n 1, 1), (.invokevirtual 241, 3), (.ifCond .eq (11), 3)] := Jvm.Free.DS.facts 0 _ (by decide +kernel) (by decide +kernel)
theorem d_MD_shapeBy_0 : decode prog_12_method_122_code 0 = .ok (.aload_n 0, 1) := F_MD_shapeBy_0.1
theorem d_MD_shapeBy_1 : decode prog_12_method_122_code 1 = .ok (.iconst 0, 1) := F_MD_shapeBy_0.2.1
theorem d_MD_shapeBy_2 : decode prog_12_method_122_code 2 = .ok (.putfield 74, 3) := F_MD_shapeBy_0.2.2.1
theorem d_MD_shapeBy_5 : decode prog_12_method_122_code 5 = .ok (.aload_n 0, 1) := F_MD_shapeBy_0.2.2.2.1
theorem d_MD_shapeBy_6 : decode prog_12_method_122_code 6 = .ok (.iload_n 1, 1) := F_MD_shapeBy_0.2.2.2.2.1
theorem d_MD_shapeBy_7 : decode prog_12_method_122_code 7 = .ok (.invokevirtual 241, 3) := F_MD_shapeBy_0.2.2.2.2.2.1
theorem d_MD_shapeBy_10 : decode prog_12_method_122_code 10 = .ok (.ifCond .eq (11), 3) := F_MD_shapeBy_0.2.2.2.2.2.2.1
theorem F_MD_shapeBy_21 : Jvm.Free.DS.Facts prog_12_method_122_code 21 [(.iconst (-1), 1), (.ireturn, 1)] := Jvm.Free.DS.facts 21 _ (by decide +kernel) (by decide +kernel)
theorem d_MD_shapeBy_21 : decode prog_12_method_122_code 21 = .ok (.iconst (-1), 1) := F_MD_shapeBy_21.1
theorem d_MD_shapeBy_22 : decode prog_12_method_122_code 22 = .ok (.ireturn, 1) := F_MD_shapeBy_21.2.1
theorem F_CM_symmetries_0 : Jvm.Free.DS.Facts prog_1_method_48_code 0 [(.aload_n 0, 1), (.getfield 12, 3), (.iload_n 1, 1), (.invokevirtual 127, 3), (.ifCond .eq (10), 3)] := Jvm.Free.DS.facts 0 _ (by decide +kernel) (by decide +kernel)
theorem d_CM_symmetries_0 : decode prog_1_method_48_code 0 = .ok (.aload_n 0, 1) := F_CM_symmetries_0.1
theorem d_CM_symmetries_1 : decode prog_1_method_48_code 1 = .ok (.getfield 12, 3) := F_CM_symmetries_0.2.1
theorem d_CM_symmetries_4 : decode prog_1_method_48_code 4 = .ok (.iload_n 1, 1) := F_CM_symmetries_0.2.2.1
theorem d_CM_symmetries_5 : decode prog_1_method_48_code 5 = .ok (.invokevirtual 127, 3) := F_CM_symmetries_0.2.2.2.1
theorem d_CM_symmetries_8 : decode prog_1_method_48_code 8 = .ok (.ifCond .eq (10), 3) := F_CM_symmetries_0.2.2.2.2.1
theorem F_CM_symmetries_18 : Jvm.Free.DS.Facts prog_1_method_48_code 18 [(.iconst (-1), 1), (.ireturn, 1)] := Jvm.Free.DS.facts 18 _ (by decide +kernel) (by decide +kernel)
theorem d_CM_symmetries_18 : decode prog_1_method_48_code 18 = .ok (.iconst (-1), 1) := F_CM_symmetries_18.1
theorem d_CM_symmetries_19 : decode prog_1_method_48_code 19 = .ok (.ireturn, 1) := F_CM_symmetries_18.2.1
theorem F_MD_symmetries_0 : Jvm.Free.DS.Facts prog_12_method_125_code 0 [(.aload_n 0, 1), (.iconst 0, 1), (.putfield 74, 3), (.aload_n 0, 1), (.iload_n 1, 1), (.invokevirtual 238, 3), (.ifCond .eq (12), 3)] := Jvm.Free.DS.facts 0 _ (by decide +kernel) (by decide +kernel)
theorem d_MD_symmetries_0 : decode prog_12_method_125_code 0 = .ok (.aload_n 0, 1) := F_MD_symmetries_0.1
theorem d_MD_symmetries_1 : decode prog_12_method_125_code 1 = .ok (.iconst 0, 1) := F_MD_symmetries_0.2.1
theorem d_MD_symmetries_2 : decode prog_12_method_125_code 2 = .ok (.putfield 74, 3) := F_MD_symmetries_0.2.2.1
theorem d_MD_symmetries_5 : decode prog_12_method_125_code 5 = .ok (.aload_n 0, 1) := F_MD_symmetries_0.2.2.2.1
theorem d_MD_symmetries_6 : decode prog_12_method_125_code 6 = .ok (.iload_n 1, 1) := F_MD_symmetries_0.2.2.2.2.1
theorem d_MD_symmetries_7 : decode prog_12_method_125_code 7 = .ok (.invokevirtual 238, 3) := F_MD_symmetries_0.2.2.2.2.2.1
theorem d_MD_symmetries_10 : decode prog_12_method_125_code 10 = .ok (.ifCond .eq (12), 3) := F_MD_symmetries_0.2.2.2.2.2.2.1
theorem F_MD_symmetries_22 : Jvm.Free.DS.Facts prog_12_method_125_code 22 [(.iconst (-1), 1), (.ireturn, 1)] := Jvm.Free.DS.facts 22 _ (by decide +kernel) (by decide +kernel)
theorem d_MD_symmetries_22 : decode prog_12_method_125_code 22 = .ok (.iconst (-1), 1) := F_MD_symmetries_22.1
theorem d_MD_symmetries_23 : decode prog_12_method_125_code 23 = .ok (.ireturn, 1) := F_MD_symmetries_22.2.1
theorem F_CM_symmetry_0 : Jvm.Free.DS.Facts prog_1_method_49_code 0 [(.aload_n 0, 1), (.getfield 12, 3), (.iload_n 1, 1), (.invokevirtual 127, 3), (.ifCond .eq (13), 3)] := Jvm.Free.DS.facts 0 _ (by decide +kernel) (by decide +kernel)
theorem d_CM_symmetry_0 : decode prog_1_method_49_code 0 = .ok (.aload_n 0, 1) := F_CM_symmetry_0.1
theorem d_CM_symmetry_1 : decode prog_1_method_49_code 1 = .ok (.getfield 12, 3) := F_CM_symmetry_0.2.1
theorem d_CM_symmetry_4 : decode prog_1_method_49_code 4 = .ok (.iload_n 1, 1) := F_CM_symmetry_0.2.2.1
theorem d_CM_symmetry_5 : decode prog_1_method_49_code 5 = .ok (.invokevirtual 127, 3) := F_CM_symmetry_0.2.2.2.1
theorem d_CM_symmetry_8 : decode prog_1_method_49_code 8 = .ok (.ifCond .eq (13), 3) := F_CM_symmetry_0.2.2.2.2.1
theorem F_CM_symmetry_21 : Jvm.Free.DS.Facts prog_1_method_49_code 21 [(.iconst (-1), 1), (.ireturn, 1)] := Jvm.Free.DS.facts 21 _ (by decide +kernel) (by decide +kernel)
theorem d_CM_symmetry_21 : decode prog_1_method_49_code 21 = .ok (.iconst (-1), 1) := F_CM_symmetry_21.1
theorem d_CM_symmetry_22 : decode prog_1_method_49_code 22 = .ok (.ireturn, 1) := F_CM_symmetry_21.2.1
theorem F_MD_symmetry_0 : Jvm.Free.DS.Facts prog_12_method_126_code 0 [(.aload_n 0, 1), (.iconst 0, 1), (.putfield 74, 3), (.aload_n 0, 1), (.iload_n 1, 1), (.invokevirtual 238, 3), (.ifCond .eq (13), 3)] := Jvm.Free.DS.facts 0 _ (by decide +kernel) (by decide +kernel)
theorem d_MD_symmetry_0 : decode prog_12_method_126_code 0 = .ok (.aload_n 0, 1) := F_MD_symmetry_0.1
theorem d_MD_symmetry_1 : decode prog_12_method_126_code 1 = .ok (.iconst 0, 1) := F_MD_symmetry_0.2.1
theorem d_MD_symmetry_2 : decode prog_12_method_126_code 2 = .ok (.putfield 74, 3) := F_MD_symmetry_0.2.2.1
theorem d_MD_symmetry_5 : decode prog_12_method_126_code 5 = .ok (.aload_n 0, 1) := F_MD_symmetry_0.2.2.2.1
theorem d_MD_symmetry_6 : decode prog_12_method_126_code 6 = .ok (.iload_n 1, 1) := F_MD_symmetry_0.2.2.2.2.1
theorem d_MD_symmetry_7 : decode prog_12_method_126_code 7 = .ok (.invokevirtual 238, 3) := F_MD_symmetry_0.2.2.2.2.2.1
theorem d_MD_symmetry_10 : decode prog_12_method_126_code 10 = .ok (.ifCond .eq (13), 3) := F_MD_symmetry_0.2.2.2.2.2.2.1
theorem F_MD_symmetry_23 : Jvm.Free.DS.Facts prog_12_method_126_code 23 [(.iconst (-1), 1), (.ireturn, 1)] := Jvm.Free.DS.facts 23 _ (by decide +kernel) (by decide +kernel)
theorem d_MD_symmetry_23 : decode prog_12_method_126_code 23 = .ok (.iconst (-1), 1) := F_MD_symmetry_23.1
theorem d_MD_symmetry_24 : decode prog_12_method_126_code 24 = .ok (.ireturn, 1) := F_MD_symmetry_23.2.1
theorem F_CM_word_0 : Jvm.Free.DS.Facts prog_1_method_50_code 0 [(.aload_n 0, 1), (.getfield 12, 3), (.iload_n 1, 1), (.invokevirtual 151, 3), (.ifCond .eq (8), 3)] := Jvm.Free.DS.facts 0 _ (by decide +kernel) (by decide +kernel)
theorem d_CM_word_0 : decode prog_1_method_50_code 0 = .ok (.aload_n 0, 1) := F_CM_word_0.1
theorem d_CM_word_1 : decode prog_1_method_50_code 1 = .ok (.getfield 12, 3) := F_CM_word_0.2.1
theorem d_CM_word_4 : decode prog_1_method_50_code 4 = .ok (.iload_n 1, 1) := F_CM_word_0.2.2.1
theorem d_CM_word_5 : decode prog_1_method_50_code 5 = .ok (.invokevirtual 151, 3) := F_CM_word_0.2.2.2.1
theorem d_CM_word_8 : decode prog_1_method_50_code 8 = .ok (.ifCond .eq (8), 3) := F_CM_word_0.2.2.2.2.1
theorem F_CM_word_16 : Jvm.Free.DS.Facts prog_1_method_50_code 16 [(.iconst (-1), 1), (.ireturn, 1)] := Jvm.Free.DS.facts 16 _ (by decide +kernel) (by decide +kernel)
theorem d_CM_word_16 : decode prog_1_method_50_code 16 = .ok (.iconst (-1), 1) := F_CM_word_16.1
theorem d_CM_word_17 : decode prog_1_method_50_code 17 = .ok (.ireturn, 1) := F_CM_word_16.2.1
theorem F_MD_word_0 : Jvm.Free.DS.Facts prog_12_method_130_code 0 [(.aload_n 0, 1), (.iconst 0, 1), (.putfield 74, 3), (.aload_n 0, 1), (.iload_n 1, 1), (.invokevirtual 241, 3), (.ifCond .eq (8), 3)] := Jvm.Free.DS.facts 0 _ (by decide +kernel) (by decide +kernel)
theorem d_MD_word_0 : decode prog_12_method_130_code 0 = .ok (.aload_n 0, 1) := F_MD_word_0.1
theorem d_MD_word_1 : decode prog_12_method_130_code 1 = .ok (.iconst 0, 1) := F_MD_word_0.2.1
theorem d_MD_word_2 : decode prog_12_method_130_code 2 = .ok (.putfield 74, 3) := F_MD_word_0.2.2.1
theorem d_MD_word_5 : decode prog_12_method_130_code 5 = .ok (.aload_n 0, 1) := F_MD_word_0.2.2.2.1
theorem d_MD_word_6 : decode prog_12_method_130_code 6 = .ok (.iload_n 1, 1) := F_MD_word_0.2.2.2.2.1
theorem d_MD_word_7 : decode prog_12_method_130_code 7 = .ok (.invokevirtual 241, 3) := F_MD_word_0.2.2.2.2.2.1
theorem d_MD_word_10 : decode prog_12_method_130_code 10 = .ok (.ifCond .eq (8), 3) := F_MD_word_0.2.2.2.2.2.2.1
theorem F_MD_word_18 : Jvm.Free.DS.Facts prog_12_method_130_code 18 [(.iconst (-1), 1), (.ireturn, 1)] := Jvm.Free.DS.facts 18 _ (by decide +kernel) (by decide +kernel)
theorem d_MD_word_18 : decode prog_12_method_130_code 18 = .ok (.iconst (-1), 1) := F_MD_word_18.1
theorem d_MD_word_19 : decode prog_12_method_130_code 19 = .ok (.ireturn, 1) := F_MD_word_18.2.1
theorem F_CM_generated_0 : Jvm.Free.DS.Facts prog_1_method_51_code 0 [(.iload_n 1, 1), (.iconst 1, 1), (.if_icmp .eq (10), 3)] := Jvm.Free.DS.facts 0 _ (by decide +kernel) (by decide +kernel)
theorem d_CM_generated_0 : decode prog_1_method_51_code 0 = .ok (.iload_n 1, 1) := F_CM_generated_0.1
theorem d_CM_generated_1 : decode prog_1_method_51_code 1 = .ok (.iconst 1, 1) := F_CM_generated_0.2.1
theorem d_CM_generated_2 : decode prog_1_method_51_code 2 = .ok (.if_icmp .eq (10), 3) := F_CM_generated_0.2.2.1
theorem F_CM_generated_12 : Jvm.Free.DS.Facts prog_1_method_51_code 12 [(.iload_n 1, 1), (.iconst 2, 1), (.if_icmp .ne (14), 3), (.aload_n 0, 1), (.getfield 54, 3), (.aload_n 0, 1), (.getfield 12, 3), (.invokevirtual 391, 3), (.aload_n 0, 1), (.getfield 12, 3), (.getfield 225, 3), (.iload_n 1, 1), (.iconst 2, 1), (.if_icmp .ne (13), 3), (.aload_n 0, 1), (.getfield 54, 3), (.getfield 394, 3), (.goto (4), 3), (.iconst 0, 1), (.iadd, 1), (.istore_n 2, 1), (.iconst 0, 1), (.istore_n 3, 1), (.iconst 0, 1), (.istore 4, 2), (.iload 4, 2), (.iload_n 2, 1), (.if_icmp .ge (21), 3)] := Jvm.Free.DS.facts 12 _ (by decide +kernel) (by decide +kernel)
theorem d_CM_generated_12 : decode prog_1_method_51_code 12 = .ok (.iload_n 1, 1) := F_CM_generated_12.1
theorem d_CM_generated_13 : decode prog_1_method_51_code 13 = .ok (.iconst 2, 1) := F_CM_generated_12.2.1
theorem d_CM_generated_14 : decode prog_1_method_51_code 14 = .ok (.if_icmp .ne (14), 3) := F_CM_generated_12.2.2.1
theorem d_CM_generated_17 : decode prog_1_method_51_code 17 = .ok (.aload_n 0, 1) := F_CM_generated_12.2.2.2.1
theorem d_CM_generated_18 : decode prog_1_method_51_code 18 = .ok (.getfield 54, 3) := F_CM_generated_12.2.2.2.2.1
theorem d_CM_generated_21 : decode prog_1_method_51_code 21 = .ok (.aload_n 0, 1) := F_CM_generated_12.2.2.2.2.2.1
theorem d_CM_generated_22 : decode prog_1_method_51_code 22 = .ok (.getfield 12, 3) := F_CM_generated_12.2.2.2.2.2.2.1
theorem d_CM_generated_25 : decode prog_1_method_51_code 25 = .ok (.invokevirtual 391, 3) := F_CM_generated_12.2.2.2.2.2.2.2.1
theorem d_CM_generated_28 : decode prog_1_method_51_code 28 = .ok (.aload_n 0, 1) := F_CM_generated_12.2.2.2.2.2.2.2.2.1
theorem d_CM_generated_29 : decode prog_1_method_51_code 29 = .ok (.getfield 12, 3) := F_CM_generated_12.2.2.2.2.2.2.2.2.2.1
theorem d_CM_generated_32 : decode prog_1_method_51_code 32 = .ok (.getfield 225, 3) := F_CM_generated_12.2.2.2.2.2.2.2.2.2.2.1
theorem d_CM_generated_35 : decode prog_1_method_51_code 35 = .ok (.iload_n 1, 1) := F_CM_generated_12.2.2.2.2.2.2.2.2.2.2.2.1
theorem d_CM_generated_36 : decode prog_1_method_51_code 36 = .ok (.iconst 2, 1) := F_CM_generated_12.2.2.2.2.2.2.2.2.2.2.2.2.1
theorem d_CM_generated_37 : decode prog_1_method_51_code 37 = .ok (.if_icmp .ne (13), 3) := F_CM_generated_12.2.2.2.2.2.2.2.2.2.2.2.2.2.1
theorem d_CM_generated_40 : decode prog_1_method_51_code 40 = .ok (.aload_n 0, 1) := F_CM_generated_12.2.2.2.2.2.2.2.2.2.2.2.2.2.2.1
theorem d_CM_generated_41 : decode prog_1_method_51_code 41 = .ok (.getfield 54, 3) := F_CM_generated_12.2.2.2.2.2.2.2.2.2.2.2.2.2.2.2.1
theorem d_CM_generated_44 : decode prog_1_method_51_code 44 = .ok (.getfield 394, 3) := F_CM_generated_12.2.2.2.2.2.2.2.2.2.2.2.2.2.2.2.2.1
theorem d_CM_generated_47 : decode prog_1_method_51_code 47 = .ok (.goto (4), 3) := F_CM_generated_12.2.2.2.2.2.2.2.2.2.2.2.2.2.2.2.2.2.1
theorem d_CM_generated_50 : decode prog_1_method_51_code 50 = .ok (.iconst 0, 1) := F_CM_generated_12.2.2.2.2.2.2.2.2.2.2.2.2.2.2.2.2.2.2.1
theorem d_CM_generated_51 : decode prog_1_method_51_code 51 = .ok (.iadd, 1) := F_CM_generated_12.2.2.2.2.2.2.2.2.2.2.2.2.2.2.2.2.2.2.2.1
theorem d_CM_generated_52 : decode prog_1_method_51_code 52 = .ok (.istore_n 2, 1) := F_CM_generated_12.2.2.2.2.2.2.2.2.2.2.2.2.2.2.2.2.2.2.2.2.1
theorem d_CM_generated_53 : decode prog_1_method_51_code 53 = .ok (.iconst 0, 1) := F_CM_generated_12.2.2.2.2.2.2.2.2.2.2.2.2.2.2.2.2.2.2.2.2.2.1
theorem d_CM_generated_54 : decode prog_1_method_51_code 54 = .ok (.istore_n 3, 1) := F_CM_generated_12.2.2.2.2.2.2.2.2.2.2.2.2.2.2.2.2.2.2.2.2.2.2.1
theorem d_CM_generated_55 : decode prog_1_method_51_code 55 = .ok (.iconst 0, 1) := F_CM_generated_12.2.2.2.2.2.2.2.2.2.2.2.2.2.2.2.2.2.2.2.2.2.2.2.1
theorem d_CM_generated_56 : decode prog_1_method_51_code 56 = .ok (.istore 4, 2) := F_CM_generated_12.2.2.2.2.2.2.2.2.2.2.2.2.2.2.2.2.2.2.2.2.2.2.2.2.1
theorem d_CM_generated_58 : decode prog_1_method_51_code 58 = .ok (.iload 4, 2) := F_CM_generated_12.2.2.2.2.2.2.2.2.2.2.2.2.2.2.2.2.2.2.2.2.2.2.2.2.2.1
theorem d_CM_generated_60 : decode prog_1_method_51_code 60 = .ok (.iload_n 2, 1) := F_CM_generated_12.2.2.2.2.2.2.2.2.2.2.2.2.2.2.2.2.2.2.2.2.2.2.2.2.2.2.1
theorem d_CM_generated_61 : decode prog_1_method_51_code 61 = .ok (.if_icmp .ge (21), 3) := F_CM_generated_12.2.2.2.2.2.2.2.2.2.2.2.2.2.2.2.2.2.2.2.2.2.2.2.2.2.2.2.1
theorem F_CM_generated_82 : Jvm.Free.DS.Facts prog_1_method_51_code 82 [(.iload_n 3, 1), (.ireturn, 1)] := Jvm.Free.DS.facts 82 _ (by decide +kernel) (by decide +kernel)
theorem d_CM_generated_82 : decode prog_1_method_51_code 82 = .ok (.iload_n 3, 1) := F_CM_generated_82.1
theorem d_CM_generated_83 : decode prog_1_method_51_code 83 = .ok (.ireturn, 1) := F_CM_generated_82.2.1
theorem F_MD_generated_0 : Jvm.Free.DS.Facts prog_12_method_132_code 0 [(.aload_n 0, 1), (.iconst 0, 1), (.putfield 74, 3), (.iload_n 1, 1), (.iconst 1, 1), (.if_icmp .lt (8), 3), (.iload_n 1, 1), (.iconst 2, 1), (.if_icmp .le (5), 3), (.iconst (-1), 1), (.ireturn, 1), (.aload_n 0, 1), (.iconst 0, 1), (.putfield 432, 3), (.iconst 0, 1), (.istore_n 2, 1), (.iload_n 2, 1), (.i2l, 1), (.aload_n 0, 1), (.getfield 21, 3), (.sipush (168), 3), (.laload, 1), (.lcmp, 1), (.ifCond .ge (22), 3)] := Jvm.Free.DS.facts 0 _ (by decide +kernel) (by decide +kernel)
theorem d_MD_generated_0 : decode prog_12_method_132_code 0 = .ok (.aload_n 0, 1) := F_MD_generated_0.1
theorem d_MD_generated_1 : decode prog_12_method_132_code 1 = .ok (.iconst 0, 1) := F_MD_generated_0.2.1
theorem d_MD_generated_2 : decode prog_12_method_132_code 2 = .ok (.putfield 74, 3) := F_MD_generated_0.2.2.1
theorem d_MD_generated_5 : decode prog_12_method_132_code 5 = .ok (.iload_n 1, 1) := F_MD_generated_0.2.2.2.1
theorem d_MD_generated_6 : decode prog_12_method_132_code 6 = .ok (.iconst 1, 1) := F_MD_generated_0.2.2.2.2.1
theorem d_MD_generated_7 : decode prog_12_method_132_code 7 = .ok (.if_icmp .lt (8), 3) := F_MD_generated_0.2.2.2.2.2.1
theorem d_MD_generated_10 : decode prog_12_method_132_code 10 = .ok (.iload_n 1, 1) := F_MD_generated_0.2.2.2.2.2.2.1
theorem d_MD_generated_11 : decode prog_12_method_132_code 11 = .ok (.iconst 2, 1) := F_MD_generated_0.2.2.2.2.2.2.2.1
theorem d_MD_generated_12 : decode prog_12_method_132_code 12 = .ok (.if_icmp .le (5), 3) := F_MD_generated_0.2.2.2.2.2.2.2.2.1
theorem d_MD_generated_15 : decode prog_12_method_132_code 15 = .ok (.iconst (-1), 1) := F_MD_generated_0.2.2.2.2.2.2.2.2.2.1
theorem d_MD_generated_16 : decode prog_12_method_132_code 16 = .ok (.ireturn, 1) := F_MD_generated_0.2.2.2.2.2.2.2.2.2.2.1
theorem d_MD_generated_17 : decode prog_12_method_132_code 17 = .ok (.aload_n 0, 1) := F_MD_generated_0.2.2.2.2.2.2.2.2.2.2.2.1
theorem d_MD_generated_18 : decode prog_12_method_132_code 18 = .ok (.iconst 0, 1) := F_MD_generated_0.2.2.2.2.2.2.2.2.2.2.2.2.1
theorem d_MD_generated_19 : decode prog_12_method_132_code 19 = .ok (.putfield 432, 3) := F_MD_generated_0.2.2.2.2.2.2.2.2.2.2.2.2.2.1
theorem d_MD_generated_22 : decode prog_12_method_132_code 22 = .ok (.iconst 0, 1) := F_MD_generated_0.2.2.2.2.2.2.2.2.2.2.2.2.2.2.1
theorem d_MD_generated_23 : decode prog_12_method_132_code 23 = .ok (.istore_n 2, 1) := F_MD_generated_0.2.2.2.2.2.2.2.2.2.2.2.2.2.2.2.1
theorem d_MD_generated_24 : decode prog_12_method_132_code 24 = .ok (.iload_n 2, 1) := F_MD_generated_0.2.2.2.2.2.2.2.2.2.2.2.2.2.2.2.2.1
theorem d_MD_generated_25 : decode prog_12_method_132_code 25 = .ok (.i2l, 1) := F_MD_generated_0.2.2.2.2.2.2.2.2.2.2.2.2.2.2.2.2.2.1
theorem d_MD_generated_26 : decode prog_12_method_132_code 26 = .ok (.aload_n 0, 1) := F_MD_generated_0.2.2.2.2.2.2.2.2.2.2.2.2.2.2.2.2.2.2.1
theorem d_MD_generated_27 : decode prog_12_method_132_code 27 = .ok (.getfield 21, 3) := F_MD_generated_0.2.2.2.2.2.2.2.2.2.2.2.2.2.2.2.2.2.2.2.1
theorem d_MD_generated_30 : decode prog_12_method_132_code 30 = .ok (.sipush (168), 3) := F_MD_generated_0.2.2.2.2.2.2.2.2.2.2.2.2.2.2.2.2.2.2.2.2.1
theorem d_MD_generated_33 : decode prog_12_method_132_code 33 = .ok (.laload, 1) := F_MD_generated_0.2.2.2.2.2.2.2.2.2.2.2.2.2.2.2.2.2.2.2.2.2.1
theorem d_MD_generated_34 : decode prog_12_method_132_code 34 = .ok (.lcmp, 1) := F_MD_generated_0.2.2.2.2.2.2.2.2.2.2.2.2.2.2.2.2.2.2.2.2.2.2.1
theorem d_MD_generated_35 : decode prog_12_method_132_code 35 = .ok (.ifCond .ge (22), 3) := F_MD_generated_0.2.2.2.2.2.2.2.2.2.2.2.2.2.2.2.2.2.2.2.2.2.2.2.1
theorem F_MD_generated_57 : Jvm.Free.DS.Facts prog_12_method_132_code 57 [(.iconst 0, 1), (.istore_n 2, 1), (.iload_n 1, 1), (.iconst 2, 1), (.if_icmp .ne (55), 3), (.iload_n 2, 1), (.i2l, 1), (.aload_n 0, 1), (.getfield 21, 3), (.sipush (168), 3), (.laload, 1), (.lcmp, 1), (.ifCond .ge (41), 3)] := Jvm.Free.DS.facts 57 _ (by decide +kernel) (by decide +kernel)
theorem d_MD_generated_57 : decode prog_12_method_132_code 57 = .ok (.iconst 0, 1) := F_MD_generated_57.1
theorem d_MD_generated_58 : decode prog_12_method_132_code 58 = .ok (.istore_n 2, 1) := F_MD_generated_57.2.1
theorem d_MD_generated_59 : decode prog_12_method_132_code 59 = .ok (.iload_n 1, 1) := F_MD_generated_57.2.2.1
theorem d_MD_generated_60 : decode prog_12_method_132_code 60 = .ok (.iconst 2, 1) := F_MD_generated_57.2.2.2.1
theorem d_MD_generated_61 : decode prog_12_method_132_code 61 = .ok (.if_icmp .ne (55), 3) := F_MD_generated_57.2.2.2.2.1
theorem d_MD_generated_64 : decode prog_12_method_132_code 64 = .ok (.iload_n 2, 1) := F_MD_generated_57.2.2.2.2.2.1
theorem d_MD_generated_65 : decode prog_12_method_132_code 65 = .ok (.i2l, 1) := F_MD_generated_57.2.2.2.2.2.2.1
theorem d_MD_generated_66 : decode prog_12_method_132_code 66 = .ok (.aload_n 0, 1) := F_MD_generated_57.2.2.2.2.2.2.2.1
theorem d_MD_generated_67 : decode prog_12_method_132_code 67 = .ok (.getfield 21, 3) := F_MD_generated_57.2.2.2.2.2.2.2.2.1
theorem d_MD_generated_70 : decode prog_12_method_132_code 70 = .ok (.sipush (168), 3) := F_MD_generated_57.2.2.2.2.2.2.2.2.2.1
theorem d_MD_generated_73 : decode prog_12_method_132_code 73 = .ok (.laload, 1) := F_MD_generated_57.2.2.2.2.2.2.2.2.2.2.1
theorem d_MD_generated_74 : decode prog_12_method_132_code 74 = .ok (.lcmp, 1) := F_MD_generated_57.2.2.2.2.2.2.2.2.2.2.2.1
theorem d_MD_generated_75 : decode prog_12_method_132_code 75 = .ok (.ifCond .ge (41), 3) := F_MD_generated_57.2.2.2.2.2.2.2.2.2.2.2.2.1
theorem F_MD_generated_116 : Jvm.Free.DS.Facts prog_12_method_132_code 116 [(.aload_n 0, 1), (.getfield 432, 3), (.ireturn, 1)] := Jvm.Free.DS.facts 116 _ (by decide +kernel) (by decide +kernel)
theorem d_MD_generated_116 : decode prog_12_method_132_code 116 = .ok (.aload_n 0, 1) := F_MD_generated_116.1
theorem d_MD_generated_117 : decode prog_12_method_132_code 117 = .ok (.getfield 432, 3) := F_MD_generated_116.2.1
theorem d_MD_generated_120 : decode prog_12_method_132_code 120 = .ok (.ireturn, 1) := F_MD_generated_116.2.2.1
theorem F_CM_leads_0 : Jvm.Free.DS.Facts prog_1_method_52_code 0 [(.aload_n 0, 1), (.getfield 12, 3), (.iload_n 1, 1), (.invokevirtual 160, 3), (.ifCond .eq (24), 3)] := Jvm.Free.DS.facts 0 _ (by decide +kernel) (by decide +kernel)
theorem d_CM_leads_0 : decode prog_1_method_52_code 0 = .ok (.aload_n 0, 1) := F_CM_leads_0.1
theorem d_CM_leads_1 : decode prog_1_method_52_code 1 = .ok (.getfield 12, 3) := F_CM_leads_0.2.1
theorem d_CM_leads_4 : decode prog_1_method_52_code 4 = .ok (.iload_n 1, 1) := F_CM_leads_0.2.2.1
theorem d_CM_leads_5 : decode prog_1_method_52_code 5 = .ok (.invokevirtual 160, 3) := F_CM_leads_0.2.2.2.1
theorem d_CM_leads_8 : decode prog_1_method_52_code 8 = .ok (.ifCond .eq (24), 3) := F_CM_leads_0.2.2.2.2.1
theorem F_CM_leads_32 : Jvm.Free.DS.Facts prog_1_method_52_code 32 [(.iconst (-1), 1), (.ireturn, 1)] := Jvm.Free.DS.facts 32 _ (by decide +kernel) (by decide +kernel)
theorem d_CM_leads_32 : decode prog_1_method_52_code 32 = .ok (.iconst (-1), 1) := F_CM_leads_32.1
theorem d_CM_leads_33 : decode prog_1_method_52_code 33 = .ok (.ireturn, 1) := F_CM_leads_32.2.1
theorem F_MD_leads_0 : Jvm.Free.DS.Facts prog_12_method_107_code 0 [(.aload_n 0, 1), (.iconst 0, 1), (.putfield 74, 3), (.aload_n 0, 1), (.iload_n 1, 1), (.invokevirtual 247, 3), (.ifCond .eq (21), 3)] := Jvm.Free.DS.facts 0 _ (by decide +kernel) (by decide +kernel)
theorem d_MD_leads_0 : decode prog_12_method_107_code 0 = .ok (.aload_n 0, 1) := F_MD_leads_0.1
theorem d_MD_leads_1 : decode prog_12_method_107_code 1 = .ok (.iconst 0, 1) := F_MD_leads_0.2.1
theorem d_MD_leads_2 : decode prog_12_method_107_code 2 = .ok (.putfield 74, 3) := F_MD_leads_0.2.2.1
theorem d_MD_leads_5 : decode prog_12_method_107_code 5 = .ok (.aload_n 0, 1) := F_MD_leads_0.2.2.2.1
theorem d_MD_leads_6 : decode prog_12_method_107_code 6 = .ok (.iload_n 1, 1) := F_MD_leads_0.2.2.2.2.1
theorem d_MD_leads_7 : decode prog_12_method_107_code 7 = .ok (.invokevirtual 247, 3) := F_MD_leads_0.2.2.2.2.2.1
theorem d_MD_leads_10 : decode prog_12_method_107_code 10 = .ok (.ifCond .eq (21), 3) := F_MD_leads_0.2.2.2.2.2.2.1
theorem F_MD_leads_31 : Jvm.Free.DS.Facts prog_12_method_107_code 31 [(.iconst (-1), 1), (.ireturn, 1)] := Jvm.Free.DS.facts 31 _ (by decide +kernel) (by decide +kernel)
theorem d_MD_leads_31 : decode prog_12_method_107_code 31 = .ok (.iconst (-1), 1) := F_MD_leads_31.1
theorem d_MD_leads_32 : decode prog_12_method_107_code 32 = .ok (.ireturn, 1) := F_MD_leads_31.2.1
theorem F_CM_pull_0 : Jvm.Free.DS.Facts prog_1_method_53_code 0 [(.aload_n 0, 1), (.getfield 12, 3), (.iload_n 1, 1), (.invokevirtual 151, 3), (.ifCond .eq (21), 3)] := Jvm.Free.DS.facts 0 _ (by decide +kernel) (by decide +kernel)
theorem d_CM_pull_0 : decode prog_1_method_53_code 0 = .ok (.aload_n 0, 1) := F_CM_pull_0.1
theorem d_CM_pull_1 : decode prog_1_method_53_code 1 = .ok (.getfield 12, 3) := F_CM_pull_0.2.1
theorem d_CM_pull_4 : decode prog_1_method_53_code 4 = .ok (.iload_n 1, 1) := F_CM_pull_0.2.2.1
theorem d_CM_pull_5 : decode prog_1_method_53_code 5 = .ok (.invokevirtual 151, 3) := F_CM_pull_0.2.2.2.1
theorem d_CM_pull_8 : decode prog_1_method_53_code 8 = .ok (.ifCond .eq (21), 3) := F_CM_pull_0.2.2.2.2.1
theorem F_CM_pull_29 : Jvm.Free.DS.Facts prog_1_method_53_code 29 [(.ldc2_w 270, 3), (.lreturn, 1)] := Jvm.Free.DS.facts 29 _ (by decide +kernel) (by decide +kernel)
theorem d_CM_pull_29 : decode prog_1_method_53_code 29 = .ok (.ldc2_w 270, 3) := F_CM_pull_29.1
theorem d_CM_pull_32 : decode prog_1_method_53_code 32 = .ok (.lreturn, 1) := F_CM_pull_29.2.1
theorem F_MD_pull_0 : Jvm.Free.DS.Facts prog_12_method_136_code 0 [(.aload_n 0, 1), (.iconst 0, 1), (.putfield 74, 3), (.aload_n 0, 1), (.iload_n 1, 1), (.invokevirtual 241, 3), (.ifCond .eq (21), 3)] := Jvm.Free.DS.facts 0 _ (by decide +kernel) (by decide +kernel)
theorem d_MD_pull_0 : decode prog_12_method_136_code 0 = .ok (.aload_n 0, 1) := F_MD_pull_0.1
theorem d_MD_pull_1 : decode prog_12_method_136_code 1 = .ok (.iconst 0, 1) := F_MD_pull_0.2.1
theorem d_MD_pull_2 : decode prog_12_method_136_code 2 = .ok (.putfield 74, 3) := F_MD_pull_0.2.2.1
theorem d_MD_pull_5 : decode prog_12_method_136_code 5 = .ok (.aload_n 0, 1) := F_MD_pull_0.2.2.2.1
theorem d_MD_pull_6 : decode prog_12_method_136_code 6 = .ok (.iload_n 1, 1) := F_MD_pull_0.2.2.2.2.1
theorem d_MD_pull_7 : decode prog_12_method_136_code 7 = .ok (.invokevirtual 241, 3) := F_MD_pull_0.2.2.2.2.2.1
theorem d_MD_pull_10 : decode prog_12_method_136_code 10 = .ok (.ifCond .eq (21), 3) := F_MD_pull_0.2.2.2.2.2.2.1
theorem F_MD_pull_31 : Jvm.Free.DS.Facts prog_12_method_136_code 31 [(.ldc2_w 307, 3), (.lreturn, 1)] := Jvm.Free.DS.facts 31 _ (by decide +kernel) (by decide +kernel)
theorem d_MD_pull_31 : decode prog_12_method_136_code 31 = .ok (.ldc2_w 307, 3) := F_MD_pull_31.1
theorem d_MD_pull_34 : decode prog_12_method_136_code 34 = .ok (.lreturn, 1) := F_MD_pull_31.2.1
theorem F_CM_keepsLine_0 : Jvm.Free.DS.Facts prog_1_method_54_code 0 [(.aload_n 0, 1), (.getfield 12, 3), (.iload_n 1, 1), (.invokevirtual 151, 3), (.ifCond .eq (13), 3)] := Jvm.Free.DS.facts 0 _ (by decide +kernel) (by decide +kernel)
theorem d_CM_keepsLine_0 : decode prog_1_method_54_code 0 = .ok (.aload_n 0, 1) := F_CM_keepsLine_0.1
theorem d_CM_keepsLine_1 : decode prog_1_method_54_code 1 = .ok (.getfield 12, 3) := F_CM_keepsLine_0.2.1
theorem d_CM_keepsLine_4 : decode prog_1_method_54_code 4 = .ok (.iload_n 1, 1) := F_CM_keepsLine_0.2.2.1
theorem d_CM_keepsLine_5 : decode prog_1_method_54_code 5 = .ok (.invokevirtual 151, 3) := F_CM_keepsLine_0.2.2.2.1
theorem d_CM_keepsLine_8 : decode prog_1_method_54_code 8 = .ok (.ifCond .eq (13), 3) := F_CM_keepsLine_0.2.2.2.2.1
theorem F_CM_keepsLine_21 : Jvm.Free.DS.Facts prog_1_method_54_code 21 [(.iconst (-1), 1), (.ireturn, 1)] := Jvm.Free.DS.facts 21 _ (by decide +kernel) (by decide +kernel)
theorem d_CM_keepsLine_21 : decode prog_1_method_54_code 21 = .ok (.iconst (-1), 1) := F_CM_keepsLine_21.1
theorem d_CM_keepsLine_22 : decode prog_1_method_54_code 22 = .ok (.ireturn, 1) := F_CM_keepsLine_21.2.1
theorem F_MD_keepsLine_0 : Jvm.Free.DS.Facts prog_12_method_137_code 0 [(.aload_n 0, 1), (.iconst 0, 1), (.putfield 74, 3), (.aload_n 0, 1), (.iload_n 1, 1), (.invokevirtual 241, 3), (.ifCond .eq (13), 3)] := Jvm.Free.DS.facts 0 _ (by decide +kernel) (by decide +kernel)
theorem d_MD_keepsLine_0 : decode prog_12_method_137_code 0 = .ok (.aload_n 0, 1) := F_MD_keepsLine_0.1
theorem d_MD_keepsLine_1 : decode prog_12_method_137_code 1 = .ok (.iconst 0, 1) := F_MD_keepsLine_0.2.1
theorem d_MD_keepsLine_2 : decode prog_12_method_137_code 2 = .ok (.putfield 74, 3) := F_MD_keepsLine_0.2.2.1
theorem d_MD_keepsLine_5 : decode prog_12_method_137_code 5 = .ok (.aload_n 0, 1) := F_MD_keepsLine_0.2.2.2.1
theorem d_MD_keepsLine_6 : decode prog_12_method_137_code 6 = .ok (.iload_n 1, 1) := F_MD_keepsLine_0.2.2.2.2.1
theorem d_MD_keepsLine_7 : decode prog_12_method_137_code 7 = .ok (.invokevirtual 241, 3) := F_MD_keepsLine_0.2.2.2.2.2.1
theorem d_MD_keepsLine_10 : decode prog_12_method_137_code 10 = .ok (.ifCond .eq (13), 3) := F_MD_keepsLine_0.2.2.2.2.2.2.1
theorem F_MD_keepsLine_23 : Jvm.Free.DS.Facts prog_12_method_137_code 23 [(.iconst (-1), 1), (.ireturn, 1)] := Jvm.Free.DS.facts 23 _ (by decide +kernel) (by decide +kernel)
theorem d_MD_keepsLine_23 : decode prog_12_method_137_code 23 = .ok (.iconst (-1), 1) := F_MD_keepsLine_23.1
theorem d_MD_keepsLine_24 : decode prog_12_method_137_code 24 = .ok (.ireturn, 1) := F_MD_keepsLine_23.2.1
theorem F_CM_side_0 : Jvm.Free.DS.Facts prog_1_method_55_code 0 [(.aload_n 0, 1), (.getfield 12, 3), (.iload_n 1, 1), (.invokevirtual 127, 3), (.ifCond .eq (17), 3)] := Jvm.Free.DS.facts 0 _ (by decide +kernel) (by decide +kernel)
theorem d_CM_side_0 : decode prog_1_method_55_code 0 = .ok (.aload_n 0, 1) := F_CM_side_0.1
theorem d_CM_side_1 : decode prog_1_method_55_code 1 = .ok (.getfield 12, 3) := F_CM_side_0.2.1
theorem d_CM_side_4 : decode prog_1_method_55_code 4 = .ok (.iload_n 1, 1) := F_CM_side_0.2.2.1
theorem d_CM_side_5 : decode prog_1_method_55_code 5 = .ok (.invokevirtual 127, 3) := F_CM_side_0.2.2.2.1
theorem d_CM_side_8 : decode prog_1_method_55_code 8 = .ok (.ifCond .eq (17), 3) := F_CM_side_0.2.2.2.2.1
theorem F_CM_side_25 : Jvm.Free.DS.Facts prog_1_method_55_code 25 [(.ldc2_w 270, 3), (.lreturn, 1)] := Jvm.Free.DS.facts 25 _ (by decide +kernel) (by decide +kernel)
theorem d_CM_side_25 : decode prog_1_method_55_code 25 = .ok (.ldc2_w 270, 3) := F_CM_side_25.1
theorem d_CM_side_28 : decode prog_1_method_55_code 28 = .ok (.lreturn, 1) := F_CM_side_25.2.1
theorem F_MD_side_0 : Jvm.Free.DS.Facts prog_12_method_138_code 0 [(.aload_n 0, 1), (.iconst 0, 1), (.putfield 74, 3), (.aload_n 0, 1), (.iload_n 1, 1), (.invokevirtual 238, 3), (.ifCond .eq (19), 3)] := Jvm.Free.DS.facts 0 _ (by decide +kernel) (by decide +kernel)
theorem d_MD_side_0 : decode prog_12_method_138_code 0 = .ok (.aload_n 0, 1) := F_MD_side_0.1
theorem d_MD_side_1 : decode prog_12_method_138_code 1 = .ok (.iconst 0, 1) := F_MD_side_0.2.1
theorem d_MD_side_2 : decode prog_12_method_138_code 2 = .ok (.putfield 74, 3) := F_MD_side_0.2.2.1
theorem d_MD_side_5 : decode prog_12_method_138_code 5 = .ok (.aload_n 0, 1) := F_MD_side_0.2.2.2.1
theorem d_MD_side_6 : decode prog_12_method_138_code 6 = .ok (.iload_n 1, 1) := F_MD_side_0.2.2.2.2.1
theorem d_MD_side_7 : decode prog_12_method_138_code 7 = .ok (.invokevirtual 238, 3) := F_MD_side_0.2.2.2.2.2.1
theorem d_MD_side_10 : decode prog_12_method_138_code 10 = .ok (.ifCond .eq (19), 3) := F_MD_side_0.2.2.2.2.2.2.1
theorem F_MD_side_29 : Jvm.Free.DS.Facts prog_12_method_138_code 29 [(.ldc2_w 307, 3), (.lreturn, 1)] := Jvm.Free.DS.facts 29 _ (by decide +kernel) (by decide +kernel)
theorem d_MD_side_29 : decode prog_12_method_138_code 29 = .ok (.ldc2_w 307, 3) := F_MD_side_29.1
theorem d_MD_side_32 : decode prog_12_method_138_code 32 = .ok (.lreturn, 1) := F_MD_side_29.2.1
theorem F_CM_turnOf_0 : Jvm.Free.DS.Facts prog_1_method_56_code 0 [(.aload_n 0, 1), (.iload_n 1, 1), (.invokevirtual 398, 3), (.ifCond .ne (19), 3), (.aload_n 0, 1), (.iload_n 2, 1), (.invokevirtual 398, 3), (.ifCond .ne (11), 3), (.aload_n 0, 1), (.iload_n 3, 1), (.invokevirtual 398, 3), (.ifCond .eq (6), 3)] := Jvm.Free.DS.facts 0 _ (by decide +kernel) (by decide +kernel)
theorem d_CM_turnOf_0 : decode prog_1_method_56_code 0 = .ok (.aload_n 0, 1) := F_CM_turnOf_0.1
theorem d_CM_turnOf_1 : decode prog_1_method_56_code 1 = .ok (.iload_n 1, 1) := F_CM_turnOf_0.2.1
theorem d_CM_turnOf_2 : decode prog_1_method_56_code 2 = .ok (.invokevirtual 398, 3) := F_CM_turnOf_0.2.2.1
theorem d_CM_turnOf_5 : decode prog_1_method_56_code 5 = .ok (.ifCond .ne (19), 3) := F_CM_turnOf_0.2.2.2.1
theorem d_CM_turnOf_8 : decode prog_1_method_56_code 8 = .ok (.aload_n 0, 1) := F_CM_turnOf_0.2.2.2.2.1
theorem d_CM_turnOf_9 : decode prog_1_method_56_code 9 = .ok (.iload_n 2, 1) := F_CM_turnOf_0.2.2.2.2.2.1
theorem d_CM_turnOf_10 : decode prog_1_method_56_code 10 = .ok (.invokevirtual 398, 3) := F_CM_turnOf_0.2.2.2.2.2.2.1
theorem d_CM_turnOf_13 : decode prog_1_method_56_code 13 = .ok (.ifCond .ne (11), 3) := F_CM_turnOf_0.2.2.2.2.2.2.2.1
theorem d_CM_turnOf_16 : decode prog_1_method_56_code 16 = .ok (.aload_n 0, 1) := F_CM_turnOf_0.2.2.2.2.2.2.2.2.1
theorem d_CM_turnOf_17 : decode prog_1_method_56_code 17 = .ok (.iload_n 3, 1) := F_CM_turnOf_0.2.2.2.2.2.2.2.2.2.1
theorem d_CM_turnOf_18 : decode prog_1_method_56_code 18 = .ok (.invokevirtual 398, 3) := F_CM_turnOf_0.2.2.2.2.2.2.2.2.2.2.1
theorem d_CM_turnOf_21 : decode prog_1_method_56_code 21 = .ok (.ifCond .eq (6), 3) := F_CM_turnOf_0.2.2.2.2.2.2.2.2.2.2.2.1
theorem F_CM_turnOf_27 : Jvm.Free.DS.Facts prog_1_method_56_code 27 [(.aload_n 0, 1), (.iload_n 1, 1), (.iload_n 2, 1), (.iload_n 3, 1), (.iload_n 3, 1), (.invokevirtual 330, 3), (.ifCond .ne (6), 3), (.bipush (-3), 2), (.ireturn, 1)] := Jvm.Free.DS.facts 27 _ (by decide +kernel) (by decide +kernel)
theorem d_CM_turnOf_27 : decode prog_1_method_56_code 27 = .ok (.aload_n 0, 1) := F_CM_turnOf_27.1
theorem d_CM_turnOf_28 : decode prog_1_method_56_code 28 = .ok (.iload_n 1, 1) := F_CM_turnOf_27.2.1
theorem d_CM_turnOf_29 : decode prog_1_method_56_code 29 = .ok (.iload_n 2, 1) := F_CM_turnOf_27.2.2.1
theorem d_CM_turnOf_30 : decode prog_1_method_56_code 30 = .ok (.iload_n 3, 1) := F_CM_turnOf_27.2.2.2.1
theorem d_CM_turnOf_31 : decode prog_1_method_56_code 31 = .ok (.iload_n 3, 1) := F_CM_turnOf_27.2.2.2.2.1
theorem d_CM_turnOf_32 : decode prog_1_method_56_code 32 = .ok (.invokevirtual 330, 3) := F_CM_turnOf_27.2.2.2.2.2.1
theorem d_CM_turnOf_35 : decode prog_1_method_56_code 35 = .ok (.ifCond .ne (6), 3) := F_CM_turnOf_27.2.2.2.2.2.2.1
theorem d_CM_turnOf_38 : decode prog_1_method_56_code 38 = .ok (.bipush (-3), 2) := F_CM_turnOf_27.2.2.2.2.2.2.2.1
theorem d_CM_turnOf_40 : decode prog_1_method_56_code 40 = .ok (.ireturn, 1) := F_CM_turnOf_27.2.2.2.2.2.2.2.2.1
theorem F_CM_isFar_0 : Jvm.Free.DS.Facts prog_1_method_84_code 0 [(.aload_n 0, 1), (.getfield 12, 3), (.iload_n 1, 1), (.invokevirtual 160, 3), (.ifCond .eq (22), 3)] := Jvm.Free.DS.facts 0 _ (by decide +kernel) (by decide +kernel)
theorem d_CM_isFar_0 : decode prog_1_method_84_code 0 = .ok (.aload_n 0, 1) := F_CM_isFar_0.1
theorem d_CM_isFar_1 : decode prog_1_method_84_code 1 = .ok (.getfield 12, 3) := F_CM_isFar_0.2.1
theorem d_CM_isFar_4 : decode prog_1_method_84_code 4 = .ok (.iload_n 1, 1) := F_CM_isFar_0.2.2.1
theorem d_CM_isFar_5 : decode prog_1_method_84_code 5 = .ok (.invokevirtual 160, 3) := F_CM_isFar_0.2.2.2.1
theorem d_CM_isFar_8 : decode prog_1_method_84_code 8 = .ok (.ifCond .eq (22), 3) := F_CM_isFar_0.2.2.2.2.1
theorem F_CM_isFar_30 : Jvm.Free.DS.Facts prog_1_method_84_code 30 [(.iconst 0, 1), (.ireturn, 1)] := Jvm.Free.DS.facts 30 _ (by decide +kernel) (by decide +kernel)
theorem d_CM_isFar_30 : decode prog_1_method_84_code 30 = .ok (.iconst 0, 1) := F_CM_isFar_30.1
theorem d_CM_isFar_31 : decode prog_1_method_84_code 31 = .ok (.ireturn, 1) := F_CM_isFar_30.2.1
theorem F_MD_turnOf_0 : Jvm.Free.DS.Facts prog_12_method_140_code 0 [(.aload_n 0, 1), (.iconst 0, 1), (.putfield 74, 3), (.aload_n 0, 1), (.iload_n 1, 1), (.invokevirtual 247, 3), (.ifCond .eq (19), 3)] := Jvm.Free.DS.facts 0 _ (by decide +kernel) (by decide +kernel)
theorem d_MD_turnOf_0 : decode prog_12_method_140_code 0 = .ok (.aload_n 0, 1) := F_MD_turnOf_0.1
theorem d_MD_turnOf_1 : decode prog_12_method_140_code 1 = .ok (.iconst 0, 1) := F_MD_turnOf_0.2.1
theorem d_MD_turnOf_2 : decode prog_12_method_140_code 2 = .ok (.putfield 74, 3) := F_MD_turnOf_0.2.2.1
theorem d_MD_turnOf_5 : decode prog_12_method_140_code 5 = .ok (.aload_n 0, 1) := F_MD_turnOf_0.2.2.2.1
theorem d_MD_turnOf_6 : decode prog_12_method_140_code 6 = .ok (.iload_n 1, 1) := F_MD_turnOf_0.2.2.2.2.1
theorem d_MD_turnOf_7 : decode prog_12_method_140_code 7 = .ok (.invokevirtual 247, 3) := F_MD_turnOf_0.2.2.2.2.2.1
theorem d_MD_turnOf_10 : decode prog_12_method_140_code 10 = .ok (.ifCond .eq (19), 3) := F_MD_turnOf_0.2.2.2.2.2.2.1
theorem F_MD_turnOf_29 : Jvm.Free.DS.Facts prog_12_method_140_code 29 [(.bipush (-3), 2), (.ireturn, 1)] := Jvm.Free.DS.facts 29 _ (by decide +kernel) (by decide +kernel)
theorem d_MD_turnOf_29 : decode prog_12_method_140_code 29 = .ok (.bipush (-3), 2) := F_MD_turnOf_29.1
theorem d_MD_turnOf_31 : decode prog_12_method_140_code 31 = .ok (.ireturn, 1) := F_MD_turnOf_29.2.1
theorem F_CM_gap_0 : Jvm.Free.DS.Facts prog_1_method_57_code 0 [(.aload_n 0, 1), (.getfield 12, 3), (.iload_n 1, 1), (.invokevirtual 160, 3), (.ifCond .eq (21), 3)] := Jvm.Free.DS.facts 0 _ (by decide +kernel) (by decide +kernel)
theorem d_CM_gap_0 : decode prog_1_method_57_code 0 = .ok (.aload_n 0, 1) := F_CM_gap_0.1
theorem d_CM_gap_1 : decode prog_1_method_57_code 1 = .ok (.getfield 12, 3) := F_CM_gap_0.2.1
theorem d_CM_gap_4 : decode prog_1_method_57_code 4 = .ok (.iload_n 1, 1) := F_CM_gap_0.2.2.1
theorem d_CM_gap_5 : decode prog_1_method_57_code 5 = .ok (.invokevirtual 160, 3) := F_CM_gap_0.2.2.2.1
theorem d_CM_gap_8 : decode prog_1_method_57_code 8 = .ok (.ifCond .eq (21), 3) := F_CM_gap_0.2.2.2.2.1
theorem F_CM_gap_29 : Jvm.Free.DS.Facts prog_1_method_57_code 29 [(.ldc2_w 270, 3), (.lreturn, 1)] := Jvm.Free.DS.facts 29 _ (by decide +kernel) (by decide +kernel)
theorem d_CM_gap_29 : decode prog_1_method_57_code 29 = .ok (.ldc2_w 270, 3) := F_CM_gap_29.1
theorem d_CM_gap_32 : decode prog_1_method_57_code 32 = .ok (.lreturn, 1) := F_CM_gap_29.2.1
theorem F_MD_gap_0 : Jvm.Free.DS.Facts prog_12_method_141_code 0 [(.aload_n 0, 1), (.iconst 0, 1), (.putfield 74, 3), (.aload_n 0, 1), (.iload_n 1, 1), (.invokevirtual 247, 3), (.ifCond .eq (20), 3)] := Jvm.Free.DS.facts 0 _ (by decide +kernel) (by decide +kernel)
theorem d_MD_gap_0 : decode prog_12_method_141_code 0 = .ok (.aload_n 0, 1) := F_MD_gap_0.1
theorem d_MD_gap_1 : decode prog_12_method_141_code 1 = .ok (.iconst 0, 1) := F_MD_gap_0.2.1
theorem d_MD_gap_2 : decode prog_12_method_141_code 2 = .ok (.putfield 74, 3) := F_MD_gap_0.2.2.1
theorem d_MD_gap_5 : decode prog_12_method_141_code 5 = .ok (.aload_n 0, 1) := F_MD_gap_0.2.2.2.1
theorem d_MD_gap_6 : decode prog_12_method_141_code 6 = .ok (.iload_n 1, 1) := F_MD_gap_0.2.2.2.2.1
theorem d_MD_gap_7 : decode prog_12_method_141_code 7 = .ok (.invokevirtual 247, 3) := F_MD_gap_0.2.2.2.2.2.1
theorem d_MD_gap_10 : decode prog_12_method_141_code 10 = .ok (.ifCond .eq (20), 3) := F_MD_gap_0.2.2.2.2.2.2.1
theorem F_MD_gap_30 : Jvm.Free.DS.Facts prog_12_method_141_code 30 [(.ldc2_w 307, 3), (.lreturn, 1)] := Jvm.Free.DS.facts 30 _ (by decide +kernel) (by decide +kernel)
theorem d_MD_gap_30 : decode prog_12_method_141_code 30 = .ok (.ldc2_w 307, 3) := F_MD_gap_30.1
theorem d_MD_gap_33 : decode prog_12_method_141_code 33 = .ok (.lreturn, 1) := F_MD_gap_30.2.1
theorem F_CM_middle_0 : Jvm.Free.DS.Facts prog_1_method_58_code 0 [(.aload_n 0, 1), (.getfield 12, 3), (.iload_n 1, 1), (.invokevirtual 160, 3), (.ifCond .eq (21), 3)] := Jvm.Free.DS.facts 0 _ (by decide +kernel) (by decide +kernel)
theorem d_CM_middle_0 : decode prog_1_method_58_code 0 = .ok (.aload_n 0, 1) := F_CM_middle_0.1
theorem d_CM_middle_1 : decode prog_1_method_58_code 1 = .ok (.getfield 12, 3) := F_CM_middle_0.2.1
theorem d_CM_middle_4 : decode prog_1_method_58_code 4 = .ok (.iload_n 1, 1) := F_CM_middle_0.2.2.1
theorem d_CM_middle_5 : decode prog_1_method_58_code 5 = .ok (.invokevirtual 160, 3) := F_CM_middle_0.2.2.2.1
theorem d_CM_middle_8 : decode prog_1_method_58_code 8 = .ok (.ifCond .eq (21), 3) := F_CM_middle_0.2.2.2.2.1
theorem F_CM_middle_29 : Jvm.Free.DS.Facts prog_1_method_58_code 29 [(.ldc2_w 270, 3), (.lreturn, 1)] := Jvm.Free.DS.facts 29 _ (by decide +kernel) (by decide +kernel)
theorem d_CM_middle_29 : decode prog_1_method_58_code 29 = .ok (.ldc2_w 270, 3) := F_CM_middle_29.1
theorem d_CM_middle_32 : decode prog_1_method_58_code 32 = .ok (.lreturn, 1) := F_CM_middle_29.2.1
theorem F_MD_middle_0 : Jvm.Free.DS.Facts prog_12_method_143_code 0 [(.aload_n 0, 1), (.iconst 0, 1), (.putfield 74, 3), (.aload_n 0, 1), (.iload_n 1, 1), (.invokevirtual 247, 3), (.ifCond .eq (18), 3)] := Jvm.Free.DS.facts 0 _ (by decide +kernel) (by decide +kernel)
theorem d_MD_middle_0 : decode prog_12_method_143_code 0 = .ok (.aload_n 0, 1) := F_MD_middle_0.1
theorem d_MD_middle_1 : decode prog_12_method_143_code 1 = .ok (.iconst 0, 1) := F_MD_middle_0.2.1
theorem d_MD_middle_2 : decode prog_12_method_143_code 2 = .ok (.putfield 74, 3) := F_MD_middle_0.2.2.1
theorem d_MD_middle_5 : decode prog_12_method_143_code 5 = .ok (.aload_n 0, 1) := F_MD_middle_0.2.2.2.1
theorem d_MD_middle_6 : decode prog_12_method_143_code 6 = .ok (.iload_n 1, 1) := F_MD_middle_0.2.2.2.2.1
theorem d_MD_middle_7 : decode prog_12_method_143_code 7 = .ok (.invokevirtual 247, 3) := F_MD_middle_0.2.2.2.2.2.1
theorem d_MD_middle_10 : decode prog_12_method_143_code 10 = .ok (.ifCond .eq (18), 3) := F_MD_middle_0.2.2.2.2.2.2.1
theorem F_MD_middle_28 : Jvm.Free.DS.Facts prog_12_method_143_code 28 [(.ldc2_w 307, 3), (.lreturn, 1)] := Jvm.Free.DS.facts 28 _ (by decide +kernel) (by decide +kernel)
theorem d_MD_middle_28 : decode prog_12_method_143_code 28 = .ok (.ldc2_w 307, 3) := F_MD_middle_28.1
theorem d_MD_middle_31 : decode prog_12_method_143_code 31 = .ok (.lreturn, 1) := F_MD_middle_28.2.1
theorem F_CM_partner_0 : Jvm.Free.DS.Facts prog_1_method_59_code 0 [(.aload_n 0, 1), (.getfield 12, 3), (.iload_n 1, 1), (.invokevirtual 151, 3), (.ifCond .ne (5), 3), (.iconst (-1), 1), (.ireturn, 1)] := Jvm.Free.DS.facts 0 _ (by decide +kernel) (by decide +kernel)
theorem d_CM_partner_0 : decode prog_1_method_59_code 0 = .ok (.aload_n 0, 1) := F_CM_partner_0.1
theorem d_CM_partner_1 : decode prog_1_method_59_code 1 = .ok (.getfield 12, 3) := F_CM_partner_0.2.1
theorem d_CM_partner_4 : decode prog_1_method_59_code 4 = .ok (.iload_n 1, 1) := F_CM_partner_0.2.2.1
theorem d_CM_partner_5 : decode prog_1_method_59_code 5 = .ok (.invokevirtual 151, 3) := F_CM_partner_0.2.2.2.1
theorem d_CM_partner_8 : decode prog_1_method_59_code 8 = .ok (.ifCond .ne (5), 3) := F_CM_partner_0.2.2.2.2.1
theorem d_CM_partner_11 : decode prog_1_method_59_code 11 = .ok (.iconst (-1), 1) := F_CM_partner_0.2.2.2.2.2.1
theorem d_CM_partner_12 : decode prog_1_method_59_code 12 = .ok (.ireturn, 1) := F_CM_partner_0.2.2.2.2.2.2.1
theorem F_MD_partner_0 : Jvm.Free.DS.Facts prog_12_method_145_code 0 [(.aload_n 0, 1), (.iconst 0, 1), (.putfield 74, 3), (.aload_n 0, 1), (.iload_n 1, 1), (.invokevirtual 241, 3), (.ifCond .ne (5), 3), (.iconst (-1), 1), (.ireturn, 1)] := Jvm.Free.DS.facts 0 _ (by decide +kernel) (by decide +kernel)
theorem d_MD_partner_0 : decode prog_12_method_145_code 0 = .ok (.aload_n 0, 1) := F_MD_partner_0.1
theorem d_MD_partner_1 : decode prog_12_method_145_code 1 = .ok (.iconst 0, 1) := F_MD_partner_0.2.1
theorem d_MD_partner_2 : decode prog_12_method_145_code 2 = .ok (.putfield 74, 3) := F_MD_partner_0.2.2.1
theorem d_MD_partner_5 : decode prog_12_method_145_code 5 = .ok (.aload_n 0, 1) := F_MD_partner_0.2.2.2.1
theorem d_MD_partner_6 : decode prog_12_method_145_code 6 = .ok (.iload_n 1, 1) := F_MD_partner_0.2.2.2.2.1
theorem d_MD_partner_7 : decode prog_12_method_145_code 7 = .ok (.invokevirtual 241, 3) := F_MD_partner_0.2.2.2.2.2.1
theorem d_MD_partner_10 : decode prog_12_method_145_code 10 = .ok (.ifCond .ne (5), 3) := F_MD_partner_0.2.2.2.2.2.2.1
theorem d_MD_partner_13 : decode prog_12_method_145_code 13 = .ok (.iconst (-1), 1) := F_MD_partner_0.2.2.2.2.2.2.2.1
theorem d_MD_partner_14 : decode prog_12_method_145_code 14 = .ok (.ireturn, 1) := F_MD_partner_0.2.2.2.2.2.2.2.2.1
theorem F_CM_cornerBy_0 : Jvm.Free.DS.Facts prog_1_method_60_code 0 [(.aload_n 0, 1), (.getfield 12, 3), (.iload_n 1, 1), (.invokevirtual 151, 3), (.ifCond .eq (29), 3)] := Jvm.Free.DS.facts 0 _ (by decide +kernel) (by decide +kernel)
theorem d_CM_cornerBy_0 : decode prog_1_method_60_code 0 = .ok (.aload_n 0, 1) := F_CM_cornerBy_0.1
theorem d_CM_cornerBy_1 : decode prog_1_method_60_code 1 = .ok (.getfield 12, 3) := F_CM_cornerBy_0.2.1
theorem d_CM_cornerBy_4 : decode prog_1_method_60_code 4 = .ok (.iload_n 1, 1) := F_CM_cornerBy_0.2.2.1
theorem d_CM_cornerBy_5 : decode prog_1_method_60_code 5 = .ok (.invokevirtual 151, 3) := F_CM_cornerBy_0.2.2.2.1
theorem d_CM_cornerBy_8 : decode prog_1_method_60_code 8 = .ok (.ifCond .eq (29), 3) := F_CM_cornerBy_0.2.2.2.2.1
theorem F_CM_cornerBy_37 : Jvm.Free.DS.Facts prog_1_method_60_code 37 [(.ldc2_w 270, 3), (.lreturn, 1)] := Jvm.Free.DS.facts 37 _ (by decide +kernel) (by decide +kernel)
theorem d_CM_cornerBy_37 : decode prog_1_method_60_code 37 = .ok (.ldc2_w 270, 3) := F_CM_cornerBy_37.1
theorem d_CM_cornerBy_40 : decode prog_1_method_60_code 40 = .ok (.lreturn, 1) := F_CM_cornerBy_37.2.1
theorem F_MD_cornerBy_0 : Jvm.Free.DS.Facts prog_12_method_152_code 0 [(.aload_n 0, 1), (.iconst 0, 1), (.putfield 74, 3), (.aload_n 0, 1), (.iload_n 1, 1), (.invokevirtual 241, 3), (.ifCond .eq (28), 3)] := Jvm.Free.DS.facts 0 _ (by decide +kernel) (by decide +kernel)
theorem d_MD_cornerBy_0 : decode prog_12_method_152_code 0 = .ok (.aload_n 0, 1) := F_MD_cornerBy_0.1
theorem d_MD_cornerBy_1 : decode prog_12_method_152_code 1 = .ok (.iconst 0, 1) := F_MD_cornerBy_0.2.1
theorem d_MD_cornerBy_2 : decode prog_12_method_152_code 2 = .ok (.putfield 74, 3) := F_MD_cornerBy_0.2.2.1
theorem d_MD_cornerBy_5 : decode prog_12_method_152_code 5 = .ok (.aload_n 0, 1) := F_MD_cornerBy_0.2.2.2.1
theorem d_MD_cornerBy_6 : decode prog_12_method_152_code 6 = .ok (.iload_n 1, 1) := F_MD_cornerBy_0.2.2.2.2.1
theorem d_MD_cornerBy_7 : decode prog_12_method_152_code 7 = .ok (.invokevirtual 241, 3) := F_MD_cornerBy_0.2.2.2.2.2.1
theorem d_MD_cornerBy_10 : decode prog_12_method_152_code 10 = .ok (.ifCond .eq (28), 3) := F_MD_cornerBy_0.2.2.2.2.2.2.1
theorem F_MD_cornerBy_38 : Jvm.Free.DS.Facts prog_12_method_152_code 38 [(.ldc2_w 307, 3), (.lreturn, 1)] := Jvm.Free.DS.facts 38 _ (by decide +kernel) (by decide +kernel)
theorem d_MD_cornerBy_38 : decode prog_12_method_152_code 38 = .ok (.ldc2_w 307, 3) := F_MD_cornerBy_38.1
theorem d_MD_cornerBy_41 : decode prog_12_method_152_code 41 = .ok (.lreturn, 1) := F_MD_cornerBy_38.2.1
theorem F_CM_scale_0 : Jvm.Free.DS.Facts prog_1_method_61_code 0 [(.aload_n 0, 1), (.getfield 12, 3), (.iload_n 1, 1), (.invokevirtual 151, 3), (.ifCond .eq (10), 3)] := Jvm.Free.DS.facts 0 _ (by decide +kernel) (by decide +kernel)
theorem d_CM_scale_0 : decode prog_1_method_61_code 0 = .ok (.aload_n 0, 1) := F_CM_scale_0.1
theorem d_CM_scale_1 : decode prog_1_method_61_code 1 = .ok (.getfield 12, 3) := F_CM_scale_0.2.1
theorem d_CM_scale_4 : decode prog_1_method_61_code 4 = .ok (.iload_n 1, 1) := F_CM_scale_0.2.2.1
theorem d_CM_scale_5 : decode prog_1_method_61_code 5 = .ok (.invokevirtual 151, 3) := F_CM_scale_0.2.2.2.1
theorem d_CM_scale_8 : decode prog_1_method_61_code 8 = .ok (.ifCond .eq (10), 3) := F_CM_scale_0.2.2.2.2.1
theorem F_CM_scale_18 : Jvm.Free.DS.Facts prog_1_method_61_code 18 [(.ldc2_w 270, 3), (.lreturn, 1)] := Jvm.Free.DS.facts 18 _ (by decide +kernel) (by decide +kernel)
theorem d_CM_scale_18 : decode prog_1_method_61_code 18 = .ok (.ldc2_w 270, 3) := F_CM_scale_18.1
theorem d_CM_scale_21 : decode prog_1_method_61_code 21 = .ok (.lreturn, 1) := F_CM_scale_18.2.1
theorem F_MD_scale_0 : Jvm.Free.DS.Facts prog_12_method_144_code 0 [(.aload_n 0, 1), (.iconst 0, 1), (.putfield 74, 3), (.aload_n 0, 1), (.iload_n 1, 1), (.invokevirtual 241, 3), (.ifCond .eq (12), 3)] := Jvm.Free.DS.facts 0 _ (by decide +kernel) (by decide +kernel)
theorem d_MD_scale_0 : decode prog_12_method_144_code 0 = .ok (.aload_n 0, 1) := F_MD_scale_0.1
theorem d_MD_scale_1 : decode prog_12_method_144_code 1 = .ok (.iconst 0, 1) := F_MD_scale_0.2.1
theorem d_MD_scale_2 : decode prog_12_method_144_code 2 = .ok (.putfield 74, 3) := F_MD_scale_0.2.2.1
theorem d_MD_scale_5 : decode prog_12_method_144_code 5 = .ok (.aload_n 0, 1) := F_MD_scale_0.2.2.2.1
theorem d_MD_scale_6 : decode prog_12_method_144_code 6 = .ok (.iload_n 1, 1) := F_MD_scale_0.2.2.2.2.1
theorem d_MD_scale_7 : decode prog_12_method_144_code 7 = .ok (.invokevirtual 241, 3) := F_MD_scale_0.2.2.2.2.2.1
theorem d_MD_scale_10 : decode prog_12_method_144_code 10 = .ok (.ifCond .eq (12), 3) := F_MD_scale_0.2.2.2.2.2.2.1
theorem F_MD_scale_22 : Jvm.Free.DS.Facts prog_12_method_144_code 22 [(.ldc2_w 307, 3), (.lreturn, 1)] := Jvm.Free.DS.facts 22 _ (by decide +kernel) (by decide +kernel)
theorem d_MD_scale_22 : decode prog_12_method_144_code 22 = .ok (.ldc2_w 307, 3) := F_MD_scale_22.1
theorem d_MD_scale_25 : decode prog_12_method_144_code 25 = .ok (.lreturn, 1) := F_MD_scale_22.2.1
theorem F_CM_likeness_0 : Jvm.Free.DS.Facts prog_1_method_62_code 0 [(.aload_n 0, 1), (.getfield 12, 3), (.iload_n 1, 1), (.invokevirtual 127, 3), (.ifCond .eq (21), 3)] := Jvm.Free.DS.facts 0 _ (by decide +kernel) (by decide +kernel)
theorem d_CM_likeness_0 : decode prog_1_method_62_code 0 = .ok (.aload_n 0, 1) := F_CM_likeness_0.1
theorem d_CM_likeness_1 : decode prog_1_method_62_code 1 = .ok (.getfield 12, 3) := F_CM_likeness_0.2.1
theorem d_CM_likeness_4 : decode prog_1_method_62_code 4 = .ok (.iload_n 1, 1) := F_CM_likeness_0.2.2.1
theorem d_CM_likeness_5 : decode prog_1_method_62_code 5 = .ok (.invokevirtual 127, 3) := F_CM_likeness_0.2.2.2.1
theorem d_CM_likeness_8 : decode prog_1_method_62_code 8 = .ok (.ifCond .eq (21), 3) := F_CM_likeness_0.2.2.2.2.1
theorem F_CM_likeness_29 : Jvm.Free.DS.Facts prog_1_method_62_code 29 [(.iconst (-1), 1), (.ireturn, 1)] := Jvm.Free.DS.facts 29 _ (by decide +kernel) (by decide +kernel)
theorem d_CM_likeness_29 : decode prog_1_method_62_code 29 = .ok (.iconst (-1), 1) := F_CM_likeness_29.1
theorem d_CM_likeness_30 : decode prog_1_method_62_code 30 = .ok (.ireturn, 1) := F_CM_likeness_29.2.1
theorem F_MD_likeness_0 : Jvm.Free.DS.Facts prog_12_method_146_code 0 [(.aload_n 0, 1), (.iconst 0, 1), (.putfield 74, 3), (.aload_n 0, 1), (.iload_n 1, 1), (.invokevirtual 238, 3), (.ifCond .eq (20), 3)] := Jvm.Free.DS.facts 0 _ (by decide +kernel) (by decide +kernel)
theorem d_MD_likeness_0 : decode prog_12_method_146_code 0 = .ok (.aload_n 0, 1) := F_MD_likeness_0.1
theorem d_MD_likeness_1 : decode prog_12_method_146_code 1 = .ok (.iconst 0, 1) := F_MD_likeness_0.2.1
theorem d_MD_likeness_2 : decode prog_12_method_146_code 2 = .ok (.putfield 74, 3) := F_MD_likeness_0.2.2.1
theorem d_MD_likeness_5 : decode prog_12_method_146_code 5 = .ok (.aload_n 0, 1) := F_MD_likeness_0.2.2.2.1
theorem d_MD_likeness_6 : decode prog_12_method_146_code 6 = .ok (.iload_n 1, 1) := F_MD_likeness_0.2.2.2.2.1
theorem d_MD_likeness_7 : decode prog_12_method_146_code 7 = .ok (.invokevirtual 238, 3) := F_MD_likeness_0.2.2.2.2.2.1
theorem d_MD_likeness_10 : decode prog_12_method_146_code 10 = .ok (.ifCond .eq (20), 3) := F_MD_likeness_0.2.2.2.2.2.2.1
theorem F_MD_likeness_30 : Jvm.Free.DS.Facts prog_12_method_146_code 30 [(.iconst (-1), 1), (.ireturn, 1)] := Jvm.Free.DS.facts 30 _ (by decide +kernel) (by decide +kernel)
theorem d_MD_likeness_30 : decode prog_12_method_146_code 30 = .ok (.iconst (-1), 1) := F_MD_likeness_30.1
theorem d_MD_likeness_31 : decode prog_12_method_146_code 31 = .ok (.ireturn, 1) := F_MD_likeness_30.2.1
theorem F_CM_hits_0 : Jvm.Free.DS.Facts prog_1_method_63_code 0 [(.aload_n 0, 1), (.getfield 12, 3), (.iload_n 1, 1), (.invokevirtual 151, 3), (.ifCond .eq (25), 3)] := Jvm.Free.DS.facts 0 _ (by decide +kernel) (by decide +kernel)
theorem d_CM_hits_0 : decode prog_1_method_63_code 0 = .ok (.aload_n 0, 1) := F_CM_hits_0.1
theorem d_CM_hits_1 : decode prog_1_method_63_code 1 = .ok (.getfield 12, 3) := F_CM_hits_0.2.1
theorem d_CM_hits_4 : decode prog_1_method_63_code 4 = .ok (.iload_n 1, 1) := F_CM_hits_0.2.2.1
theorem d_CM_hits_5 : decode prog_1_method_63_code 5 = .ok (.invokevirtual 151, 3) := F_CM_hits_0.2.2.2.1
theorem d_CM_hits_8 : decode prog_1_method_63_code 8 = .ok (.ifCond .eq (25), 3) := F_CM_hits_0.2.2.2.2.1
theorem F_CM_hits_33 : Jvm.Free.DS.Facts prog_1_method_63_code 33 [(.iconst (-1), 1), (.ireturn, 1)] := Jvm.Free.DS.facts 33 _ (by decide +kernel) (by decide +kernel)
theorem d_CM_hits_33 : decode prog_1_method_63_code 33 = .ok (.iconst (-1), 1) := F_CM_hits_33.1
theorem d_CM_hits_34 : decode prog_1_method_63_code 34 = .ok (.ireturn, 1) := F_CM_hits_33.2.1
theorem F_MD_hits_0 : Jvm.Free.DS.Facts prog_12_method_154_code 0 [(.aload_n 0, 1), (.iconst 0, 1), (.putfield 74, 3), (.aload_n 0, 1), (.iload_n 1, 1), (.invokevirtual 241, 3), (.ifCond .eq (29), 3)] := Jvm.Free.DS.facts 0 _ (by decide +kernel) (by decide +kernel)
theorem d_MD_hits_0 : decode prog_12_method_154_code 0 = .ok (.aload_n 0, 1) := F_MD_hits_0.1
theorem d_MD_hits_1 : decode prog_12_method_154_code 1 = .ok (.iconst 0, 1) := F_MD_hits_0.2.1
theorem d_MD_hits_2 : decode prog_12_method_154_code 2 = .ok (.putfield 74, 3) := F_MD_hits_0.2.2.1
theorem d_MD_hits_5 : decode prog_12_method_154_code 5 = .ok (.aload_n 0, 1) := F_MD_hits_0.2.2.2.1
theorem d_MD_hits_6 : decode prog_12_method_154_code 6 = .ok (.iload_n 1, 1) := F_MD_hits_0.2.2.2.2.1
theorem d_MD_hits_7 : decode prog_12_method_154_code 7 = .ok (.invokevirtual 241, 3) := F_MD_hits_0.2.2.2.2.2.1
theorem d_MD_hits_10 : decode prog_12_method_154_code 10 = .ok (.ifCond .eq (29), 3) := F_MD_hits_0.2.2.2.2.2.2.1
theorem F_MD_hits_39 : Jvm.Free.DS.Facts prog_12_method_154_code 39 [(.iconst (-1), 1), (.ireturn, 1)] := Jvm.Free.DS.facts 39 _ (by decide +kernel) (by decide +kernel)
theorem d_MD_hits_39 : decode prog_12_method_154_code 39 = .ok (.iconst (-1), 1) := F_MD_hits_39.1
theorem d_MD_hits_40 : decode prog_12_method_154_code 40 = .ok (.ireturn, 1) := F_MD_hits_39.2.1
theorem F_CM_goesTo_0 : Jvm.Free.DS.Facts prog_1_method_64_code 0 [(.aload_n 0, 1), (.getfield 12, 3), (.iload_n 1, 1), (.invokevirtual 151, 3), (.ifCond .eq (14), 3)] := Jvm.Free.DS.facts 0 _ (by decide +kernel) (by decide +kernel)
theorem d_CM_goesTo_0 : decode prog_1_method_64_code 0 = .ok (.aload_n 0, 1) := F_CM_goesTo_0.1
theorem d_CM_goesTo_1 : decode prog_1_method_64_code 1 = .ok (.getfield 12, 3) := F_CM_goesTo_0.2.1
theorem d_CM_goesTo_4 : decode prog_1_method_64_code 4 = .ok (.iload_n 1, 1) := F_CM_goesTo_0.2.2.1
theorem d_CM_goesTo_5 : decode prog_1_method_64_code 5 = .ok (.invokevirtual 151, 3) := F_CM_goesTo_0.2.2.2.1
theorem d_CM_goesTo_8 : decode prog_1_method_64_code 8 = .ok (.ifCond .eq (14), 3) := F_CM_goesTo_0.2.2.2.2.1
theorem F_CM_goesTo_22 : Jvm.Free.DS.Facts prog_1_method_64_code 22 [(.iconst (-1), 1), (.ireturn, 1)] := Jvm.Free.DS.facts 22 _ (by decide +kernel) (by decide +kernel)
theorem d_CM_goesTo_22 : decode prog_1_method_64_code 22 = .ok (.iconst (-1), 1) := F_CM_goesTo_22.1
theorem d_CM_goesTo_23 : decode prog_1_method_64_code 23 = .ok (.ireturn, 1) := F_CM_goesTo_22.2.1
theorem F_MD_goesTo_0 : Jvm.Free.DS.Facts prog_12_method_155_code 0 [(.aload_n 0, 1), (.iconst 0, 1), (.putfield 74, 3), (.aload_n 0, 1), (.iload_n 1, 1), (.invokevirtual 241, 3), (.ifCond .eq (11), 3)] := Jvm.Free.DS.facts 0 _ (by decide +kernel) (by decide +kernel)
theorem d_MD_goesTo_0 : decode prog_12_method_155_code 0 = .ok (.aload_n 0, 1) := F_MD_goesTo_0.1
theorem d_MD_goesTo_1 : decode prog_12_method_155_code 1 = .ok (.iconst 0, 1) := F_MD_goesTo_0.2.1
theorem d_MD_goesTo_2 : decode prog_12_method_155_code 2 = .ok (.putfield 74, 3) := F_MD_goesTo_0.2.2.1
theorem d_MD_goesTo_5 : decode prog_12_method_155_code 5 = .ok (.aload_n 0, 1) := F_MD_goesTo_0.2.2.2.1
theorem d_MD_goesTo_6 : decode prog_12_method_155_code 6 = .ok (.iload_n 1, 1) := F_MD_goesTo_0.2.2.2.2.1
theorem d_MD_goesTo_7 : decode prog_12_method_155_code 7 = .ok (.invokevirtual 241, 3) := F_MD_goesTo_0.2.2.2.2.2.1
theorem d_MD_goesTo_10 : decode prog_12_method_155_code 10 = .ok (.ifCond .eq (11), 3) := F_MD_goesTo_0.2.2.2.2.2.2.1
theorem F_MD_goesTo_21 : Jvm.Free.DS.Facts prog_12_method_155_code 21 [(.iconst (-1), 1), (.ireturn, 1)] := Jvm.Free.DS.facts 21 _ (by decide +kernel) (by decide +kernel)
theorem d_MD_goesTo_21 : decode prog_12_method_155_code 21 = .ok (.iconst (-1), 1) := F_MD_goesTo_21.1
theorem d_MD_goesTo_22 : decode prog_12_method_155_code 22 = .ok (.ireturn, 1) := F_MD_goesTo_21.2.1
theorem F_CM_farthest_0 : Jvm.Free.DS.Facts prog_1_method_65_code 0 [(.aload_n 0, 1), (.getfield 12, 3), (.iload_n 1, 1), (.invokevirtual 151, 3), (.ifCond .ne (7), 3), (.ldc2_w 270, 3), (.lreturn, 1)] := Jvm.Free.DS.facts 0 _ (by decide +kernel) (by decide +kernel)
theorem d_CM_farthest_0 : decode prog_1_method_65_code 0 = .ok (.aload_n 0, 1) := F_CM_farthest_0.1
theorem d_CM_farthest_1 : decode prog_1_method_65_code 1 = .ok (.getfield 12, 3) := F_CM_farthest_0.2.1
theorem d_CM_farthest_4 : decode prog_1_method_65_code 4 = .ok (.iload_n 1, 1) := F_CM_farthest_0.2.2.1
theorem d_CM_farthest_5 : decode prog_1_method_65_code 5 = .ok (.invokevirtual 151, 3) := F_CM_farthest_0.2.2.2.1
theorem d_CM_farthest_8 : decode prog_1_method_65_code 8 = .ok (.ifCond .ne (7), 3) := F_CM_farthest_0.2.2.2.2.1
theorem d_CM_farthest_11 : decode prog_1_method_65_code 11 = .ok (.ldc2_w 270, 3) := F_CM_farthest_0.2.2.2.2.2.1
theorem d_CM_farthest_14 : decode prog_1_method_65_code 14 = .ok (.lreturn, 1) := F_CM_farthest_0.2.2.2.2.2.2.1
theorem F_MD_farthest_0 : Jvm.Free.DS.Facts prog_12_method_156_code 0 [(.aload_n 0, 1), (.iconst 0, 1), (.putfield 74, 3), (.aload_n 0, 1), (.iload_n 1, 1), (.invokevirtual 241, 3), (.ifCond .ne (7), 3), (.ldc2_w 307, 3), (.lreturn, 1)] := Jvm.Free.DS.facts 0 _ (by decide +kernel) (by decide +kernel)
theorem d_MD_farthest_0 : decode prog_12_method_156_code 0 = .ok (.aload_n 0, 1) := F_MD_farthest_0.1
theorem d_MD_farthest_1 : decode prog_12_method_156_code 1 = .ok (.iconst 0, 1) := F_MD_farthest_0.2.1
theorem d_MD_farthest_2 : decode prog_12_method_156_code 2 = .ok (.putfield 74, 3) := F_MD_farthest_0.2.2.1
theorem d_MD_farthest_5 : decode prog_12_method_156_code 5 = .ok (.aload_n 0, 1) := F_MD_farthest_0.2.2.2.1
theorem d_MD_farthest_6 : decode prog_12_method_156_code 6 = .ok (.iload_n 1, 1) := F_MD_farthest_0.2.2.2.2.1
theorem d_MD_farthest_7 : decode prog_12_method_156_code 7 = .ok (.invokevirtual 241, 3) := F_MD_farthest_0.2.2.2.2.2.1
theorem d_MD_farthest_10 : decode prog_12_method_156_code 10 = .ok (.ifCond .ne (7), 3) := F_MD_farthest_0.2.2.2.2.2.2.1
theorem d_MD_farthest_13 : decode prog_12_method_156_code 13 = .ok (.ldc2_w 307, 3) := F_MD_farthest_0.2.2.2.2.2.2.2.1
theorem d_MD_farthest_16 : decode prog_12_method_156_code 16 = .ok (.lreturn, 1) := F_MD_farthest_0.2.2.2.2.2.2.2.2.1
theorem F_CM_biggest_0 : Jvm.Free.DS.Facts prog_1_method_66_code 0 [(.iload_n 1, 1), (.invokestatic 136, 3)] := Jvm.Free.DS.facts 0 _ (by decide +kernel) (by decide +kernel)
theorem d_CM_biggest_0 : decode prog_1_method_66_code 0 = .ok (.iload_n 1, 1) := F_CM_biggest_0.1
theorem d_CM_biggest_1 : decode prog_1_method_66_code 1 = .ok (.invokestatic 136, 3) := F_CM_biggest_0.2.1
theorem F_CM_isPart_0 : Jvm.Free.DS.Facts prog_1_method_74_code 0 [(.iload_n 0, 1), (.ifCond .eq (8), 3), (.iload_n 0, 1), (.iconst 1, 1), (.if_icmp .ne (7), 3), (.iconst 1, 1), (.goto (4), 3), (.iconst 0, 1), (.ireturn, 1)] := Jvm.Free.DS.facts 0 _ (by decide +kernel) (by decide +kernel)
theorem d_CM_isPart_0 : decode prog_1_method_74_code 0 = .ok (.iload_n 0, 1) := F_CM_isPart_0.1
theorem d_CM_isPart_1 : decode prog_1_method_74_code 1 = .ok (.ifCond .eq (8), 3) := F_CM_isPart_0.2.1
theorem d_CM_isPart_4 : decode prog_1_method_74_code 4 = .ok (.iload_n 0, 1) := F_CM_isPart_0.2.2.1
theorem d_CM_isPart_5 : decode prog_1_method_74_code 5 = .ok (.iconst 1, 1) := F_CM_isPart_0.2.2.2.1
theorem d_CM_isPart_6 : decode prog_1_method_74_code 6 = .ok (.if_icmp .ne (7), 3) := F_CM_isPart_0.2.2.2.2.1
theorem d_CM_isPart_9 : decode prog_1_method_74_code 9 = .ok (.iconst 1, 1) := F_CM_isPart_0.2.2.2.2.2.1
theorem d_CM_isPart_10 : decode prog_1_method_74_code 10 = .ok (.goto (4), 3) := F_CM_isPart_0.2.2.2.2.2.2.1
theorem d_CM_isPart_13 : decode prog_1_method_74_code 13 = .ok (.iconst 0, 1) := F_CM_isPart_0.2.2.2.2.2.2.2.1
theorem d_CM_isPart_14 : decode prog_1_method_74_code 14 = .ok (.ireturn, 1) := F_CM_isPart_0.2.2.2.2.2.2.2.2.1
theorem F_MD_biggest_0 : Jvm.Free.DS.Facts prog_12_method_147_code 0 [(.aload_n 0, 1), (.iconst 0, 1), (.putfield 74, 3), (.iload_n 1, 1), (.ifCond .lt (8), 3), (.iload_n 1, 1), (.iconst 1, 1), (.if_icmp .le (5), 3), (.iconst (-1), 1), (.ireturn, 1), (.bipush (-2), 2), (.istore_n 2, 1), (.iconst 0, 1), (.istore_n 3, 1), (.iload_n 3, 1), (.i2l, 1), (.aload_n 0, 1), (.getfield 21, 3), (.sipush (168), 3), (.laload, 1), (.lcmp, 1), (.ifCond .ge (57), 3)] := Jvm.Free.DS.facts 0 _ (by decide +kernel) (by decide +kernel)
theorem d_MD_biggest_0 : decode prog_12_method_147_code 0 = .ok (.aload_n 0, 1) := F_MD_biggest_0.1
theorem d_MD_biggest_1 : decode prog_12_method_147_code 1 = .ok (.iconst 0, 1) := F_MD_biggest_0.2.1
theorem d_MD_biggest_2 : decode prog_12_method_147_code 2 = .ok (.putfield 74, 3) := F_MD_biggest_0.2.2.1
theorem d_MD_biggest_5 : decode prog_12_method_147_code 5 = .ok (.iload_n 1, 1) := F_MD_biggest_0.2.2.2.1
theorem d_MD_biggest_6 : decode prog_12_method_147_code 6 = .ok (.ifCond .lt (8), 3) := F_MD_biggest_0.2.2.2.2.1
theorem d_MD_biggest_9 : decode prog_12_method_147_code 9 = .ok (.iload_n 1, 1) := F_MD_biggest_0.2.2.2.2.2.1
theorem d_MD_biggest_10 : decode prog_12_method_147_code 10 = .ok (.iconst 1, 1) := F_MD_biggest_0.2.2.2.2.2.2.1
theorem d_MD_biggest_11 : decode prog_12_method_147_code 11 = .ok (.if_icmp .le (5), 3) := F_MD_biggest_0.2.2.2.2.2.2.2.1
theorem d_MD_biggest_14 : decode prog_12_method_147_code 14 = .ok (.iconst (-1), 1) := F_MD_biggest_0.2.2.2.2.2.2.2.2.1
theorem d_MD_biggest_15 : decode prog_12_method_147_code 15 = .ok (.ireturn, 1) := F_MD_biggest_0.2.2.2.2.2.2.2.2.2.1
theorem d_MD_biggest_16 : decode prog_12_method_147_code 16 = .ok (.bipush (-2), 2) := F_MD_biggest_0.2.2.2.2.2.2.2.2.2.2.1
theorem d_MD_biggest_18 : decode prog_12_method_147_code 18 = .ok (.istore_n 2, 1) := F_MD_biggest_0.2.2.2.2.2.2.2.2.2.2.2.1
theorem d_MD_biggest_19 : decode prog_12_method_147_code 19 = .ok (.iconst 0, 1) := F_MD_biggest_0.2.2.2.2.2.2.2.2.2.2.2.2.1
theorem d_MD_biggest_20 : decode prog_12_method_147_code 20 = .ok (.istore_n 3, 1) := F_MD_biggest_0.2.2.2.2.2.2.2.2.2.2.2.2.2.1
theorem d_MD_biggest_21 : decode prog_12_method_147_code 21 = .ok (.iload_n 3, 1) := F_MD_biggest_0.2.2.2.2.2.2.2.2.2.2.2.2.2.2.1
theorem d_MD_biggest_22 : decode prog_12_method_147_code 22 = .ok (.i2l, 1) := F_MD_biggest_0.2.2.2.2.2.2.2.2.2.2.2.2.2.2.2.1
theorem d_MD_biggest_23 : decode prog_12_method_147_code 23 = .ok (.aload_n 0, 1) := F_MD_biggest_0.2.2.2.2.2.2.2.2.2.2.2.2.2.2.2.2.1
theorem d_MD_biggest_24 : decode prog_12_method_147_code 24 = .ok (.getfield 21, 3) := F_MD_biggest_0.2.2.2.2.2.2.2.2.2.2.2.2.2.2.2.2.2.1
theorem d_MD_biggest_27 : decode prog_12_method_147_code 27 = .ok (.sipush (168), 3) := F_MD_biggest_0.2.2.2.2.2.2.2.2.2.2.2.2.2.2.2.2.2.2.1
theorem d_MD_biggest_30 : decode prog_12_method_147_code 30 = .ok (.laload, 1) := F_MD_biggest_0.2.2.2.2.2.2.2.2.2.2.2.2.2.2.2.2.2.2.2.1
theorem d_MD_biggest_31 : decode prog_12_method_147_code 31 = .ok (.lcmp, 1) := F_MD_biggest_0.2.2.2.2.2.2.2.2.2.2.2.2.2.2.2.2.2.2.2.2.1
theorem d_MD_biggest_32 : decode prog_12_method_147_code 32 = .ok (.ifCond .ge (57), 3) := F_MD_biggest_0.2.2.2.2.2.2.2.2.2.2.2.2.2.2.2.2.2.2.2.2.2.1
theorem F_MD_biggest_89 : Jvm.Free.DS.Facts prog_12_method_147_code 89 [(.iload_n 2, 1), (.ireturn, 1)] := Jvm.Free.DS.facts 89 _ (by decide +kernel) (by decide +kernel)
theorem d_MD_biggest_89 : decode prog_12_method_147_code 89 = .ok (.iload_n 2, 1) := F_MD_biggest_89.1
theorem d_MD_biggest_90 : decode prog_12_method_147_code 90 = .ok (.ireturn, 1) := F_MD_biggest_89.2.1
theorem F_CM_kinds_0 : Jvm.Free.DS.Facts prog_1_method_67_code 0 [(.iload_n 1, 1), (.invokestatic 385, 3)] := Jvm.Free.DS.facts 0 _ (by decide +kernel) (by decide +kernel)
theorem d_CM_kinds_0 : decode prog_1_method_67_code 0 = .ok (.iload_n 1, 1) := F_CM_kinds_0.1
theorem d_CM_kinds_1 : decode prog_1_method_67_code 1 = .ok (.invokestatic 385, 3) := F_CM_kinds_0.2.1
theorem F_CM_isKind_0 : Jvm.Free.DS.Facts prog_1_method_77_code 0 [(.iload_n 0, 1), (.ifCond .lt (12), 3), (.iload_n 0, 1), (.iconst 5, 1), (.if_icmp .gt (7), 3), (.iconst 1, 1), (.goto (4), 3), (.iconst 0, 1), (.ireturn, 1)] := Jvm.Free.DS.facts 0 _ (by decide +kernel) (by decide +kernel)
theorem d_CM_isKind_0 : decode prog_1_method_77_code 0 = .ok (.iload_n 0, 1) := F_CM_isKind_0.1
theorem d_CM_isKind_1 : decode prog_1_method_77_code 1 = .ok (.ifCond .lt (12), 3) := F_CM_isKind_0.2.1
theorem d_CM_isKind_4 : decode prog_1_method_77_code 4 = .ok (.iload_n 0, 1) := F_CM_isKind_0.2.2.1
theorem d_CM_isKind_5 : decode prog_1_method_77_code 5 = .ok (.iconst 5, 1) := F_CM_isKind_0.2.2.2.1
theorem d_CM_isKind_6 : decode prog_1_method_77_code 6 = .ok (.if_icmp .gt (7), 3) := F_CM_isKind_0.2.2.2.2.1
theorem d_CM_isKind_9 : decode prog_1_method_77_code 9 = .ok (.iconst 1, 1) := F_CM_isKind_0.2.2.2.2.2.1
theorem d_CM_isKind_10 : decode prog_1_method_77_code 10 = .ok (.goto (4), 3) := F_CM_isKind_0.2.2.2.2.2.2.1
theorem d_CM_isKind_13 : decode prog_1_method_77_code 13 = .ok (.iconst 0, 1) := F_CM_isKind_0.2.2.2.2.2.2.2.1
theorem d_CM_isKind_14 : decode prog_1_method_77_code 14 = .ok (.ireturn, 1) := F_CM_isKind_0.2.2.2.2.2.2.2.2.1
theorem F_MD_kinds_0 : Jvm.Free.DS.Facts prog_12_method_148_code 0 [(.aload_n 0, 1), (.iconst 0, 1), (.putfield 74, 3), (.iload_n 1, 1), (.ifCond .lt (8), 3), (.iload_n 1, 1), (.iconst 5, 1), (.if_icmp .le (5), 3), (.iconst (-1), 1), (.ireturn, 1), (.iconst 0, 1), (.istore_n 2, 1), (.iconst 0, 1), (.istore_n 3, 1), (.iload_n 3, 1), (.i2l, 1), (.aload_n 0, 1), (.getfield 21, 3), (.sipush (168), 3), (.laload, 1), (.lcmp, 1), (.ifCond .ge (34), 3)] := Jvm.Free.DS.facts 0 _ (by decide +kernel) (by decide +kernel)
theorem d_MD_kinds_0 : decode prog_12_method_148_code 0 = .ok (.aload_n 0, 1) := F_MD_kinds_0.1
theorem d_MD_kinds_1 : decode prog_12_method_148_code 1 = .ok (.iconst 0, 1) := F_MD_kinds_0.2.1
theorem d_MD_kinds_2 : decode prog_12_method_148_code 2 = .ok (.putfield 74, 3) := F_MD_kinds_0.2.2.1
theorem d_MD_kinds_5 : decode prog_12_method_148_code 5 = .ok (.iload_n 1, 1) := F_MD_kinds_0.2.2.2.1
theorem d_MD_kinds_6 : decode prog_12_method_148_code 6 = .ok (.ifCond .lt (8), 3) := F_MD_kinds_0.2.2.2.2.1
theorem d_MD_kinds_9 : decode prog_12_method_148_code 9 = .ok (.iload_n 1, 1) := F_MD_kinds_0.2.2.2.2.2.1
theorem d_MD_kinds_10 : decode prog_12_method_148_code 10 = .ok (.iconst 5, 1) := F_MD_kinds_0.2.2.2.2.2.2.1
theorem d_MD_kinds_11 : decode prog_12_method_148_code 11 = .ok (.if_icmp .le (5), 3) := F_MD_kinds_0.2.2.2.2.2.2.2.1
theorem d_MD_kinds_14 : decode prog_12_method_148_code 14 = .ok (.iconst (-1), 1) := F_MD_kinds_0.2.2.2.2.2.2.2.2.1
theorem d_MD_kinds_15 : decode prog_12_method_148_code 15 = .ok (.ireturn, 1) := F_MD_kinds_0.2.2.2.2.2.2.2.2.2.1
theorem d_MD_kinds_16 : decode prog_12_method_148_code 16 = .ok (.iconst 0, 1) := F_MD_kinds_0.2.2.2.2.2.2.2.2.2.2.1
theorem d_MD_kinds_17 : decode prog_12_method_148_code 17 = .ok (.istore_n 2, 1) := F_MD_kinds_0.2.2.2.2.2.2.2.2.2.2.2.1
theorem d_MD_kinds_18 : decode prog_12_method_148_code 18 = .ok (.iconst 0, 1) := F_MD_kinds_0.2.2.2.2.2.2.2.2.2.2.2.2.1
theorem d_MD_kinds_19 : decode prog_12_method_148_code 19 = .ok (.istore_n 3, 1) := F_MD_kinds_0.2.2.2.2.2.2.2.2.2.2.2.2.2.1
theorem d_MD_kinds_20 : decode prog_12_method_148_code 20 = .ok (.iload_n 3, 1) := F_MD_kinds_0.2.2.2.2.2.2.2.2.2.2.2.2.2.2.1
theorem d_MD_kinds_21 : decode prog_12_method_148_code 21 = .ok (.i2l, 1) := F_MD_kinds_0.2.2.2.2.2.2.2.2.2.2.2.2.2.2.2.1
theorem d_MD_kinds_22 : decode prog_12_method_148_code 22 = .ok (.aload_n 0, 1) := F_MD_kinds_0.2.2.2.2.2.2.2.2.2.2.2.2.2.2.2.2.1
theorem d_MD_kinds_23 : decode prog_12_method_148_code 23 = .ok (.getfield 21, 3) := F_MD_kinds_0.2.2.2.2.2.2.2.2.2.2.2.2.2.2.2.2.2.1
theorem d_MD_kinds_26 : decode prog_12_method_148_code 26 = .ok (.sipush (168), 3) := F_MD_kinds_0.2.2.2.2.2.2.2.2.2.2.2.2.2.2.2.2.2.2.1
theorem d_MD_kinds_29 : decode prog_12_method_148_code 29 = .ok (.laload, 1) := F_MD_kinds_0.2.2.2.2.2.2.2.2.2.2.2.2.2.2.2.2.2.2.2.1
theorem d_MD_kinds_30 : decode prog_12_method_148_code 30 = .ok (.lcmp, 1) := F_MD_kinds_0.2.2.2.2.2.2.2.2.2.2.2.2.2.2.2.2.2.2.2.2.1
theorem d_MD_kinds_31 : decode prog_12_method_148_code 31 = .ok (.ifCond .ge (34), 3) := F_MD_kinds_0.2.2.2.2.2.2.2.2.2.2.2.2.2.2.2.2.2.2.2.2.2.1
theorem F_MD_kinds_65 : Jvm.Free.DS.Facts prog_12_method_148_code 65 [(.iload_n 2, 1), (.ireturn, 1)] := Jvm.Free.DS.facts 65 _ (by decide +kernel) (by decide +kernel)
theorem d_MD_kinds_65 : decode prog_12_method_148_code 65 = .ok (.iload_n 2, 1) := F_MD_kinds_65.1
theorem d_MD_kinds_66 : decode prog_12_method_148_code 66 = .ok (.ireturn, 1) := F_MD_kinds_65.2.1
theorem F_CM_pairs_0 : Jvm.Free.DS.Facts prog_1_method_68_code 0 [(.iload_n 1, 1), (.invokestatic 154, 3)] := Jvm.Free.DS.facts 0 _ (by decide +kernel) (by decide +kernel)
theorem d_CM_pairs_0 : decode prog_1_method_68_code 0 = .ok (.iload_n 1, 1) := F_CM_pairs_0.1
theorem d_CM_pairs_1 : decode prog_1_method_68_code 1 = .ok (.invokestatic 154, 3) := F_CM_pairs_0.2.1
theorem F_CM_isThird_0 : Jvm.Free.DS.Facts prog_1_method_75_code 0 [(.iload_n 0, 1), (.ifCond .lt (12), 3), (.iload_n 0, 1), (.iconst 3, 1), (.if_icmp .ge (7), 3), (.iconst 1, 1), (.goto (4), 3), (.iconst 0, 1), (.ireturn, 1)] := Jvm.Free.DS.facts 0 _ (by decide +kernel) (by decide +kernel)
theorem d_CM_isThird_0 : decode prog_1_method_75_code 0 = .ok (.iload_n 0, 1) := F_CM_isThird_0.1
theorem d_CM_isThird_1 : decode prog_1_method_75_code 1 = .ok (.ifCond .lt (12), 3) := F_CM_isThird_0.2.1
theorem d_CM_isThird_4 : decode prog_1_method_75_code 4 = .ok (.iload_n 0, 1) := F_CM_isThird_0.2.2.1
theorem d_CM_isThird_5 : decode prog_1_method_75_code 5 = .ok (.iconst 3, 1) := F_CM_isThird_0.2.2.2.1
theorem d_CM_isThird_6 : decode prog_1_method_75_code 6 = .ok (.if_icmp .ge (7), 3) := F_CM_isThird_0.2.2.2.2.1
theorem d_CM_isThird_9 : decode prog_1_method_75_code 9 = .ok (.iconst 1, 1) := F_CM_isThird_0.2.2.2.2.2.1
theorem d_CM_isThird_10 : decode prog_1_method_75_code 10 = .ok (.goto (4), 3) := F_CM_isThird_0.2.2.2.2.2.2.1
theorem d_CM_isThird_13 : decode prog_1_method_75_code 13 = .ok (.iconst 0, 1) := F_CM_isThird_0.2.2.2.2.2.2.2.1
theorem d_CM_isThird_14 : decode prog_1_method_75_code 14 = .ok (.ireturn, 1) := F_CM_isThird_0.2.2.2.2.2.2.2.2.1
theorem F_MD_pairs_0 : Jvm.Free.DS.Facts prog_12_method_149_code 0 [(.aload_n 0, 1), (.iconst 0, 1), (.putfield 74, 3), (.iload_n 1, 1), (.ifCond .lt (8), 3), (.iload_n 1, 1), (.iconst 2, 1), (.if_icmp .le (5), 3), (.iconst (-1), 1), (.ireturn, 1), (.iconst 0, 1), (.istore_n 2, 1), (.iconst 0, 1), (.istore_n 3, 1), (.iload_n 3, 1), (.i2l, 1), (.aload_n 0, 1), (.getfield 21, 3), (.sipush (168), 3), (.laload, 1), (.lcmp, 1), (.ifCond .ge (54), 3)] := Jvm.Free.DS.facts 0 _ (by decide +kernel) (by decide +kernel)
theorem d_MD_pairs_0 : decode prog_12_method_149_code 0 = .ok (.aload_n 0, 1) := F_MD_pairs_0.1
theorem d_MD_pairs_1 : decode prog_12_method_149_code 1 = .ok (.iconst 0, 1) := F_MD_pairs_0.2.1
theorem d_MD_pairs_2 : decode prog_12_method_149_code 2 = .ok (.putfield 74, 3) := F_MD_pairs_0.2.2.1
theorem d_MD_pairs_5 : decode prog_12_method_149_code 5 = .ok (.iload_n 1, 1) := F_MD_pairs_0.2.2.2.1
theorem d_MD_pairs_6 : decode prog_12_method_149_code 6 = .ok (.ifCond .lt (8), 3) := F_MD_pairs_0.2.2.2.2.1
theorem d_MD_pairs_9 : decode prog_12_method_149_code 9 = .ok (.iload_n 1, 1) := F_MD_pairs_0.2.2.2.2.2.1
theorem d_MD_pairs_10 : decode prog_12_method_149_code 10 = .ok (.iconst 2, 1) := F_MD_pairs_0.2.2.2.2.2.2.1
theorem d_MD_pairs_11 : decode prog_12_method_149_code 11 = .ok (.if_icmp .le (5), 3) := F_MD_pairs_0.2.2.2.2.2.2.2.1
theorem d_MD_pairs_14 : decode prog_12_method_149_code 14 = .ok (.iconst (-1), 1) := F_MD_pairs_0.2.2.2.2.2.2.2.2.1
theorem d_MD_pairs_15 : decode prog_12_method_149_code 15 = .ok (.ireturn, 1) := F_MD_pairs_0.2.2.2.2.2.2.2.2.2.1
theorem d_MD_pairs_16 : decode prog_12_method_149_code 16 = .ok (.iconst 0, 1) := F_MD_pairs_0.2.2.2.2.2.2.2.2.2.2.1
theorem d_MD_pairs_17 : decode prog_12_method_149_code 17 = .ok (.istore_n 2, 1) := F_MD_pairs_0.2.2.2.2.2.2.2.2.2.2.2.1
theorem d_MD_pairs_18 : decode prog_12_method_149_code 18 = .ok (.iconst 0, 1) := F_MD_pairs_0.2.2.2.2.2.2.2.2.2.2.2.2.1
theorem d_MD_pairs_19 : decode prog_12_method_149_code 19 = .ok (.istore_n 3, 1) := F_MD_pairs_0.2.2.2.2.2.2.2.2.2.2.2.2.2.1
theorem d_MD_pairs_20 : decode prog_12_method_149_code 20 = .ok (.iload_n 3, 1) := F_MD_pairs_0.2.2.2.2.2.2.2.2.2.2.2.2.2.2.1
theorem d_MD_pairs_21 : decode prog_12_method_149_code 21 = .ok (.i2l, 1) := F_MD_pairs_0.2.2.2.2.2.2.2.2.2.2.2.2.2.2.2.1
theorem d_MD_pairs_22 : decode prog_12_method_149_code 22 = .ok (.aload_n 0, 1) := F_MD_pairs_0.2.2.2.2.2.2.2.2.2.2.2.2.2.2.2.2.1
theorem d_MD_pairs_23 : decode prog_12_method_149_code 23 = .ok (.getfield 21, 3) := F_MD_pairs_0.2.2.2.2.2.2.2.2.2.2.2.2.2.2.2.2.2.1
theorem d_MD_pairs_26 : decode prog_12_method_149_code 26 = .ok (.sipush (168), 3) := F_MD_pairs_0.2.2.2.2.2.2.2.2.2.2.2.2.2.2.2.2.2.2.1
theorem d_MD_pairs_29 : decode prog_12_method_149_code 29 = .ok (.laload, 1) := F_MD_pairs_0.2.2.2.2.2.2.2.2.2.2.2.2.2.2.2.2.2.2.2.1
theorem d_MD_pairs_30 : decode prog_12_method_149_code 30 = .ok (.lcmp, 1) := F_MD_pairs_0.2.2.2.2.2.2.2.2.2.2.2.2.2.2.2.2.2.2.2.2.1
theorem d_MD_pairs_31 : decode prog_12_method_149_code 31 = .ok (.ifCond .ge (54), 3) := F_MD_pairs_0.2.2.2.2.2.2.2.2.2.2.2.2.2.2.2.2.2.2.2.2.2.1
theorem F_MD_pairs_85 : Jvm.Free.DS.Facts prog_12_method_149_code 85 [(.iload_n 2, 1), (.ireturn, 1)] := Jvm.Free.DS.facts 85 _ (by decide +kernel) (by decide +kernel)
theorem d_MD_pairs_85 : decode prog_12_method_149_code 85 = .ok (.iload_n 2, 1) := F_MD_pairs_85.1
theorem d_MD_pairs_86 : decode prog_12_method_149_code 86 = .ok (.ireturn, 1) := F_MD_pairs_85.2.1
theorem F_CM_spell_0 : Jvm.Free.DS.Facts prog_1_method_69_code 0 [(.aload_n 0, 1), (.getfield 12, 3), (.iload_n 1, 1), (.invokevirtual 151, 3), (.ifCond .eq (8), 3)] := Jvm.Free.DS.facts 0 _ (by decide +kernel) (by decide +kernel)
theorem d_CM_spell_0 : decode prog_1_method_69_code 0 = .ok (.aload_n 0, 1) := F_CM_spell_0.1
theorem d_CM_spell_1 : decode prog_1_method_69_code 1 = .ok (.getfield 12, 3) := F_CM_spell_0.2.1
theorem d_CM_spell_4 : decode prog_1_method_69_code 4 = .ok (.iload_n 1, 1) := F_CM_spell_0.2.2.1
theorem d_CM_spell_5 : decode prog_1_method_69_code 5 = .ok (.invokevirtual 151, 3) := F_CM_spell_0.2.2.2.1
theorem d_CM_spell_8 : decode prog_1_method_69_code 8 = .ok (.ifCond .eq (8), 3) := F_CM_spell_0.2.2.2.2.1
theorem F_CM_spell_16 : Jvm.Free.DS.Facts prog_1_method_69_code 16 [(.iconst (-1), 1), (.ireturn, 1)] := Jvm.Free.DS.facts 16 _ (by decide +kernel) (by decide +kernel)
theorem d_CM_spell_16 : decode prog_1_method_69_code 16 = .ok (.iconst (-1), 1) := F_CM_spell_16.1
theorem d_CM_spell_17 : decode prog_1_method_69_code 17 = .ok (.ireturn, 1) := F_CM_spell_16.2.1
theorem F_MD_spell_0 : Jvm.Free.DS.Facts prog_12_method_134_code 0 [(.aload_n 0, 1), (.iconst 0, 1), (.putfield 74, 3), (.aload_n 0, 1), (.iload_n 1, 1), (.invokevirtual 241, 3), (.ifCond .eq (8), 3)] := Jvm.Free.DS.facts 0 _ (by decide +kernel) (by decide +kernel)
theorem d_MD_spell_0 : decode prog_12_method_134_code 0 = .ok (.aload_n 0, 1) := F_MD_spell_0.1
theorem d_MD_spell_1 : decode prog_12_method_134_code 1 = .ok (.iconst 0, 1) := F_MD_spell_0.2.1
theorem d_MD_spell_2 : decode prog_12_method_134_code 2 = .ok (.putfield 74, 3) := F_MD_spell_0.2.2.1
theorem d_MD_spell_5 : decode prog_12_method_134_code 5 = .ok (.aload_n 0, 1) := F_MD_spell_0.2.2.2.1
theorem d_MD_spell_6 : decode prog_12_method_134_code 6 = .ok (.iload_n 1, 1) := F_MD_spell_0.2.2.2.2.1
theorem d_MD_spell_7 : decode prog_12_method_134_code 7 = .ok (.invokevirtual 241, 3) := F_MD_spell_0.2.2.2.2.2.1
theorem d_MD_spell_10 : decode prog_12_method_134_code 10 = .ok (.ifCond .eq (8), 3) := F_MD_spell_0.2.2.2.2.2.2.1
theorem F_MD_spell_18 : Jvm.Free.DS.Facts prog_12_method_134_code 18 [(.iconst (-1), 1), (.ireturn, 1)] := Jvm.Free.DS.facts 18 _ (by decide +kernel) (by decide +kernel)
theorem d_MD_spell_18 : decode prog_12_method_134_code 18 = .ok (.iconst (-1), 1) := F_MD_spell_18.1
theorem d_MD_spell_19 : decode prog_12_method_134_code 19 = .ok (.ireturn, 1) := F_MD_spell_18.2.1
theorem F_CM_kept_0 : Jvm.Free.DS.Facts prog_1_method_70_code 0 [(.aload_n 0, 1), (.getfield 12, 3), (.iload_n 1, 1), (.invokevirtual 151, 3), (.ifCond .ne (5), 3), (.iconst (-1), 1), (.ireturn, 1)] := Jvm.Free.DS.facts 0 _ (by decide +kernel) (by decide +kernel)
theorem d_CM_kept_0 : decode prog_1_method_70_code 0 = .ok (.aload_n 0, 1) := F_CM_kept_0.1
theorem d_CM_kept_1 : decode prog_1_method_70_code 1 = .ok (.getfield 12, 3) := F_CM_kept_0.2.1
theorem d_CM_kept_4 : decode prog_1_method_70_code 4 = .ok (.iload_n 1, 1) := F_CM_kept_0.2.2.1
theorem d_CM_kept_5 : decode prog_1_method_70_code 5 = .ok (.invokevirtual 151, 3) := F_CM_kept_0.2.2.2.1
theorem d_CM_kept_8 : decode prog_1_method_70_code 8 = .ok (.ifCond .ne (5), 3) := F_CM_kept_0.2.2.2.2.1
theorem d_CM_kept_11 : decode prog_1_method_70_code 11 = .ok (.iconst (-1), 1) := F_CM_kept_0.2.2.2.2.2.1
theorem d_CM_kept_12 : decode prog_1_method_70_code 12 = .ok (.ireturn, 1) := F_CM_kept_0.2.2.2.2.2.2.1
theorem F_MD_kept_0 : Jvm.Free.DS.Facts prog_12_method_78_code 0 [(.aload_n 0, 1), (.iconst 0, 1), (.putfield 74, 3), (.aload_n 0, 1), (.iload_n 1, 1), (.invokevirtual 241, 3), (.ifCond .ne (5), 3), (.iconst (-1), 1), (.ireturn, 1)] := Jvm.Free.DS.facts 0 _ (by decide +kernel) (by decide +kernel)
theorem d_MD_kept_0 : decode prog_12_method_78_code 0 = .ok (.aload_n 0, 1) := F_MD_kept_0.1
theorem d_MD_kept_1 : decode prog_12_method_78_code 1 = .ok (.iconst 0, 1) := F_MD_kept_0.2.1
theorem d_MD_kept_2 : decode prog_12_method_78_code 2 = .ok (.putfield 74, 3) := F_MD_kept_0.2.2.1
theorem d_MD_kept_5 : decode prog_12_method_78_code 5 = .ok (.aload_n 0, 1) := F_MD_kept_0.2.2.2.1
theorem d_MD_kept_6 : decode prog_12_method_78_code 6 = .ok (.iload_n 1, 1) := F_MD_kept_0.2.2.2.2.1
theorem d_MD_kept_7 : decode prog_12_method_78_code 7 = .ok (.invokevirtual 241, 3) := F_MD_kept_0.2.2.2.2.2.1
theorem d_MD_kept_10 : decode prog_12_method_78_code 10 = .ok (.ifCond .ne (5), 3) := F_MD_kept_0.2.2.2.2.2.2.1
theorem d_MD_kept_13 : decode prog_12_method_78_code 13 = .ok (.iconst (-1), 1) := F_MD_kept_0.2.2.2.2.2.2.2.1
theorem d_MD_kept_14 : decode prog_12_method_78_code 14 = .ok (.ireturn, 1) := F_MD_kept_0.2.2.2.2.2.2.2.2.1
theorem F_CM_find_0 : Jvm.Free.DS.Facts prog_1_method_71_code 0 [(.aload_n 0, 1), (.getfield 12, 3), (.iload_n 1, 1), (.invokevirtual 127, 3), (.ifCond .eq (14), 3)] := Jvm.Free.DS.facts 0 _ (by decide +kernel) (by decide +kernel)
theorem d_CM_find_0 : decode prog_1_method_71_code 0 = .ok (.aload_n 0, 1) := F_CM_find_0.1
theorem d_CM_find_1 : decode prog_1_method_71_code 1 = .ok (.getfield 12, 3) := F_CM_find_0.2.1
theorem d_CM_find_4 : decode prog_1_method_71_code 4 = .ok (.iload_n 1, 1) := F_CM_find_0.2.2.1
theorem d_CM_find_5 : decode prog_1_method_71_code 5 = .ok (.invokevirtual 127, 3) := F_CM_find_0.2.2.2.1
theorem d_CM_find_8 : decode prog_1_method_71_code 8 = .ok (.ifCond .eq (14), 3) := F_CM_find_0.2.2.2.2.1
theorem F_CM_find_22 : Jvm.Free.DS.Facts prog_1_method_71_code 22 [(.iconst (-1), 1), (.ireturn, 1)] := Jvm.Free.DS.facts 22 _ (by decide +kernel) (by decide +kernel)
theorem d_CM_find_22 : decode prog_1_method_71_code 22 = .ok (.iconst (-1), 1) := F_CM_find_22.1
theorem d_CM_find_23 : decode prog_1_method_71_code 23 = .ok (.ireturn, 1) := F_CM_find_22.2.1
theorem F_MD_find_0 : Jvm.Free.DS.Facts prog_12_method_157_code 0 [(.aload_n 0, 1), (.iconst 0, 1), (.putfield 74, 3), (.aload_n 0, 1), (.iload_n 1, 1), (.invokevirtual 238, 3), (.ifCond .eq (11), 3)] := Jvm.Free.DS.facts 0 _ (by decide +kernel) (by decide +kernel)
theorem d_MD_find_0 : decode prog_12_method_157_code 0 = .ok (.aload_n 0, 1) := F_MD_find_0.1
theorem d_MD_find_1 : decode prog_12_method_157_code 1 = .ok (.iconst 0, 1) := F_MD_find_0.2.1
theorem d_MD_find_2 : decode prog_12_method_157_code 2 = .ok (.putfield 74, 3) := F_MD_find_0.2.2.1
theorem d_MD_find_5 : decode prog_12_method_157_code 5 = .ok (.aload_n 0, 1) := F_MD_find_0.2.2.2.1
theorem d_MD_find_6 : decode prog_12_method_157_code 6 = .ok (.iload_n 1, 1) := F_MD_find_0.2.2.2.2.1
theorem d_MD_find_7 : decode prog_12_method_157_code 7 = .ok (.invokevirtual 238, 3) := F_MD_find_0.2.2.2.2.2.1
theorem d_MD_find_10 : decode prog_12_method_157_code 10 = .ok (.ifCond .eq (11), 3) := F_MD_find_0.2.2.2.2.2.2.1
theorem F_MD_find_21 : Jvm.Free.DS.Facts prog_12_method_157_code 21 [(.iconst (-1), 1), (.ireturn, 1)] := Jvm.Free.DS.facts 21 _ (by decide +kernel) (by decide +kernel)
theorem d_MD_find_21 : decode prog_12_method_157_code 21 = .ok (.iconst (-1), 1) := F_MD_find_21.1
theorem d_MD_find_22 : decode prog_12_method_157_code 22 = .ok (.ireturn, 1) := F_MD_find_21.2.1
theorem F_CM_size_0 : Jvm.Free.DS.Facts prog_1_method_72_code 0 [(.aload_n 0, 1), (.getfield 12, 3), (.iload_n 1, 1), (.invokevirtual 151, 3), (.ifCond .eq (19), 3)] := Jvm.Free.DS.facts 0 _ (by decide +kernel) (by decide +kernel)
theorem d_CM_size_0 : decode prog_1_method_72_code 0 = .ok (.aload_n 0, 1) := F_CM_size_0.1
theorem d_CM_size_1 : decode prog_1_method_72_code 1 = .ok (.getfield 12, 3) := F_CM_size_0.2.1
theorem d_CM_size_4 : decode prog_1_method_72_code 4 = .ok (.iload_n 1, 1) := F_CM_size_0.2.2.1
theorem d_CM_size_5 : decode prog_1_method_72_code 5 = .ok (.invokevirtual 151, 3) := F_CM_size_0.2.2.2.1
theorem d_CM_size_8 : decode prog_1_method_72_code 8 = .ok (.ifCond .eq (19), 3) := F_CM_size_0.2.2.2.2.1
theorem F_CM_size_27 : Jvm.Free.DS.Facts prog_1_method_72_code 27 [(.iconst (-1), 1), (.ireturn, 1)] := Jvm.Free.DS.facts 27 _ (by decide +kernel) (by decide +kernel)
theorem d_CM_size_27 : decode prog_1_method_72_code 27 = .ok (.iconst (-1), 1) := F_CM_size_27.1
theorem d_CM_size_28 : decode prog_1_method_72_code 28 = .ok (.ireturn, 1) := F_CM_size_27.2.1
theorem F_MD_size_0 : Jvm.Free.DS.Facts prog_12_method_158_code 0 [(.aload_n 0, 1), (.iconst 0, 1), (.putfield 74, 3), (.aload_n 0, 1), (.iload_n 1, 1), (.invokevirtual 241, 3), (.ifCond .eq (11), 3)] := Jvm.Free.DS.facts 0 _ (by decide +kernel) (by decide +kernel)
theorem d_MD_size_0 : decode prog_12_method_158_code 0 = .ok (.aload_n 0, 1) := F_MD_size_0.1
theorem d_MD_size_1 : decode prog_12_method_158_code 1 = .ok (.iconst 0, 1) := F_MD_size_0.2.1
theorem d_MD_size_2 : decode prog_12_method_158_code 2 = .ok (.putfield 74, 3) := F_MD_size_0.2.2.1
theorem d_MD_size_5 : decode prog_12_method_158_code 5 = .ok (.aload_n 0, 1) := F_MD_size_0.2.2.2.1
theorem d_MD_size_6 : decode prog_12_method_158_code 6 = .ok (.iload_n 1, 1) := F_MD_size_0.2.2.2.2.1
theorem d_MD_size_7 : decode prog_12_method_158_code 7 = .ok (.invokevirtual 241, 3) := F_MD_size_0.2.2.2.2.2.1
theorem d_MD_size_10 : decode prog_12_method_158_code 10 = .ok (.ifCond .eq (11), 3) := F_MD_size_0.2.2.2.2.2.2.1
theorem F_MD_size_21 : Jvm.Free.DS.Facts prog_12_method_158_code 21 [(.iconst (-1), 1), (.ireturn, 1)] := Jvm.Free.DS.facts 21 _ (by decide +kernel) (by decide +kernel)
theorem d_MD_size_21 : decode prog_12_method_158_code 21 = .ok (.iconst (-1), 1) := F_MD_size_21.1
theorem d_MD_size_22 : decode prog_12_method_158_code 22 = .ok (.ireturn, 1) := F_MD_size_21.2.1
theorem F_CM_count_0 : Jvm.Free.DS.Facts prog_1_method_73_code 0 [(.iload_n 1, 1)] := Jvm.Free.DS.facts 0 _ (by decide +kernel) (by decide +kernel)
theorem d_CM_count_0 : decode prog_1_method_73_code 0 = .ok (.iload_n 1, 1) := F_CM_count_0.1
theorem F_MD_count_0 : Jvm.Free.DS.Facts prog_12_method_161_code 0 [(.aload_n 0, 1), (.iconst 0, 1), (.putfield 74, 3), (.iload_n 1, 1)] := Jvm.Free.DS.facts 0 _ (by decide +kernel) (by decide +kernel)
theorem d_MD_count_0 : decode prog_12_method_161_code 0 = .ok (.aload_n 0, 1) := F_MD_count_0.1
theorem d_MD_count_1 : decode prog_12_method_161_code 1 = .ok (.iconst 0, 1) := F_MD_count_0.2.1
theorem d_MD_count_2 : decode prog_12_method_161_code 2 = .ok (.putfield 74, 3) := F_MD_count_0.2.2.1
theorem d_MD_count_5 : decode prog_12_method_161_code 5 = .ok (.iload_n 1, 1) := F_MD_count_0.2.2.2.1
