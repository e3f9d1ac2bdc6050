/-! corner, map, point: on new objects they throw, or say so (by program) -/
def M_Law_corner : pM := (⟨"CornerMapsLaw", "corner", "(LCornerMaps;III[J)I"⟩, method_3_code, 6, some .int)
def M_Law_map : pM := (⟨"CornerMapsLaw", "map", "(LCornerMaps;III[J)I"⟩, method_4_code, 6, some .int)
def M_Law_point : pM := (⟨"CornerMapsLaw", "point", "(LCornerMaps;II[J)I"⟩, method_5_code, 5, some .int)
def M_MD_thrown : pM := (⟨"CornerMapsModel", "thrown", "()I"⟩, prog_12_method_2_code, 1, some .int)
theorem co_MD_thrown : CalOK M_MD_thrown 0 := ⟨g_at 1615 (by decide +kernel) rfl, g_at 13 (by decide +kernel) rfl, by decide +kernel, by decide +kernel, by decide +kernel⟩
theorem pn_MD_thrown : plainName M_MD_thrown.1.cls = true := by decide +kernel
theorem im_CM_corner : Cond.instanceMethod M_CM_corner.1 ∈ gtbl := g_at 1438 (by decide +kernel) rfl
theorem se_CM_corner : Cond.selects M_CM_corner.1.cls M_CM_corner.1 M_CM_corner.1 ∈ gtbl := g_at 1439 (by decide +kernel) rfl
theorem im_CM_map : Cond.instanceMethod M_CM_map.1 ∈ gtbl := g_at 1481 (by decide +kernel) rfl
theorem se_CM_map : Cond.selects M_CM_map.1.cls M_CM_map.1 M_CM_map.1 ∈ gtbl := g_at 1482 (by decide +kernel) rfl
theorem im_CM_point : Cond.instanceMethod M_CM_point.1 ∈ gtbl := g_at 1488 (by decide +kernel) rfl
theorem se_CM_point : Cond.selects M_CM_point.1.cls M_CM_point.1 M_CM_point.1 ∈ gtbl := g_at 1489 (by decide +kernel) rfl
theorem im_MD_thrown : Cond.instanceMethod M_MD_thrown.1 ∈ gtbl := g_at 1613 (by decide +kernel) rfl
theorem se_MD_thrown : Cond.selects M_MD_thrown.1.cls M_MD_thrown.1 M_MD_thrown.1 ∈ gtbl := g_at 1614 (by decide +kernel) rfl
theorem L_Law_7 : Cond.methodLink "CornerMapsLaw" 7 ⟨"CornerMaps", "corner", "(III)I"⟩ ∈ gtbl := g_at 1437 (by decide +kernel) rfl
theorem L_Law_13 : Cond.classLink "CornerMapsLaw" 13 "java/lang/IndexOutOfBoundsException" ∈ gtbl := g_at 1435 (by decide +kernel) rfl
theorem L_Law_17 : Cond.methodLink "CornerMapsLaw" 17 ⟨"CornerMaps", "map", "(III)I"⟩ ∈ gtbl := g_at 1480 (by decide +kernel) rfl
theorem L_Law_20 : Cond.methodLink "CornerMapsLaw" 20 ⟨"CornerMaps", "point", "(II)I"⟩ ∈ gtbl := g_at 1487 (by decide +kernel) rfl
theorem F_CM_corner_11 : Jvm.Free.DS.Facts prog_1_method_5_code 11 [(.iload_n 2, 1), (.invokestatic 130, 3), (.ifCond .ne (11), 3)] := Jvm.Free.DS.facts 11 _ (by decide +kernel) (by decide +kernel)
theorem d_CM_corner_11 : decode prog_1_method_5_code 11 = .ok (.iload_n 2, 1) := F_CM_corner_11.1
theorem d_CM_corner_12 : decode prog_1_method_5_code 12 = .ok (.invokestatic 130, 3) := F_CM_corner_11.2.1
theorem d_CM_corner_15 : decode prog_1_method_5_code 15 = .ok (.ifCond .ne (11), 3) := F_CM_corner_11.2.2.1
theorem F_CM_corner_21 : Jvm.Free.DS.Facts prog_1_method_5_code 21 [(.dup, 1), (.invokespecial 135, 3), (.athrow, 1), (.iload_n 3, 1), (.invokestatic 136, 3), (.ifCond .ne (11), 3), (.new 139, 3), (.dup, 1), (.invokespecial 141, 3), (.athrow, 1), (.aload_n 0, 1), (.getfield 12, 3), (.getfield 142, 3), (.iload_n 1, 1), (.aaload, 1), (.getfield 146, 3), (.iload_n 2, 1), (.aaload, 1), (.iload_n 3, 1), (.laload, 1), (.l2i, 1), (.ireturn, 1)] := Jvm.Free.DS.facts 21 _ (by decide +kernel) (by decide +kernel)
theorem d_CM_corner_21 : decode prog_1_method_5_code 21 = .ok (.dup, 1) := F_CM_corner_21.1
theorem d_CM_corner_22 : decode prog_1_method_5_code 22 = .ok (.invokespecial 135, 3) := F_CM_corner_21.2.1
theorem d_CM_corner_25 : decode prog_1_method_5_code 25 = .ok (.athrow, 1) := F_CM_corner_21.2.2.1
theorem d_CM_corner_26 : decode prog_1_method_5_code 26 = .ok (.iload_n 3, 1) := F_CM_corner_21.2.2.2.1
theorem d_CM_corner_27 : decode prog_1_method_5_code 27 = .ok (.invokestatic 136, 3) := F_CM_corner_21.2.2.2.2.1
theorem d_CM_corner_30 : decode prog_1_method_5_code 30 = .ok (.ifCond .ne (11), 3) := F_CM_corner_21.2.2.2.2.2.1
theorem d_CM_corner_33 : decode prog_1_method_5_code 33 = .ok (.new 139, 3) := F_CM_corner_21.2.2.2.2.2.2.1
theorem d_CM_corner_36 : decode prog_1_method_5_code 36 = .ok (.dup, 1) := F_CM_corner_21.2.2.2.2.2.2.2.1
theorem d_CM_corner_37 : decode prog_1_method_5_code 37 = .ok (.invokespecial 141, 3) := F_CM_corner_21.2.2.2.2.2.2.2.2.1
theorem d_CM_corner_40 : decode prog_1_method_5_code 40 = .ok (.athrow, 1) := F_CM_corner_21.2.2.2.2.2.2.2.2.2.1
theorem d_CM_corner_41 : decode prog_1_method_5_code 41 = .ok (.aload_n 0, 1) := F_CM_corner_21.2.2.2.2.2.2.2.2.2.2.1
theorem d_CM_corner_42 : decode prog_1_method_5_code 42 = .ok (.getfield 12, 3) := F_CM_corner_21.2.2.2.2.2.2.2.2.2.2.2.1
theorem d_CM_corner_45 : decode prog_1_method_5_code 45 = .ok (.getfield 142, 3) := F_CM_corner_21.2.2.2.2.2.2.2.2.2.2.2.2.1
theorem d_CM_corner_48 : decode prog_1_method_5_code 48 = .ok (.iload_n 1, 1) := F_CM_corner_21.2.2.2.2.2.2.2.2.2.2.2.2.2.1
theorem d_CM_corner_49 : decode prog_1_method_5_code 49 = .ok (.aaload, 1) := F_CM_corner_21.2.2.2.2.2.2.2.2.2.2.2.2.2.2.1
theorem d_CM_corner_50 : decode prog_1_method_5_code 50 = .ok (.getfield 146, 3) := F_CM_corner_21.2.2.2.2.2.2.2.2.2.2.2.2.2.2.2.1
theorem d_CM_corner_53 : decode prog_1_method_5_code 53 = .ok (.iload_n 2, 1) := F_CM_corner_21.2.2.2.2.2.2.2.2.2.2.2.2.2.2.2.2.1
theorem d_CM_corner_54 : decode prog_1_method_5_code 54 = .ok (.aaload, 1) := F_CM_corner_21.2.2.2.2.2.2.2.2.2.2.2.2.2.2.2.2.2.1
theorem d_CM_corner_55 : decode prog_1_method_5_code 55 = .ok (.iload_n 3, 1) := F_CM_corner_21.2.2.2.2.2.2.2.2.2.2.2.2.2.2.2.2.2.2.1
theorem d_CM_corner_56 : decode prog_1_method_5_code 56 = .ok (.laload, 1) := F_CM_corner_21.2.2.2.2.2.2.2.2.2.2.2.2.2.2.2.2.2.2.2.1
theorem d_CM_corner_57 : decode prog_1_method_5_code 57 = .ok (.l2i, 1) := F_CM_corner_21.2.2.2.2.2.2.2.2.2.2.2.2.2.2.2.2.2.2.2.2.1
theorem d_CM_corner_58 : decode prog_1_method_5_code 58 = .ok (.ireturn, 1) := F_CM_corner_21.2.2.2.2.2.2.2.2.2.2.2.2.2.2.2.2.2.2.2.2.2.1
theorem F_Law_corner_0 : Jvm.Free.DS.Facts method_3_code 0 [(.aload 4, 2), (.iconst 0, 1), (.aload_n 0, 1), (.iload_n 1, 1), (.iload_n 2, 1), (.iload_n 3, 1), (.invokevirtual 7, 3), (.i2l, 1), (.lastore, 1), (.goto (11), 3), (.astore 5, 2), (.iconst 1, 1), (.ireturn, 1), (.astore 5, 2), (.iconst 2, 1), (.ireturn, 1), (.iconst 0, 1), (.ireturn, 1)] := Jvm.Free.DS.facts 0 _ (by decide +kernel) (by decide +kernel)
theorem d_Law_corner_0 : decode method_3_code 0 = .ok (.aload 4, 2) := F_Law_corner_0.1
theorem d_Law_corner_2 : decode method_3_code 2 = .ok (.iconst 0, 1) := F_Law_corner_0.2.1
theorem d_Law_corner_3 : decode method_3_code 3 = .ok (.aload_n 0, 1) := F_Law_corner_0.2.2.1
theorem d_Law_corner_4 : decode method_3_code 4 = .ok (.iload_n 1, 1) := F_Law_corner_0.2.2.2.1
theorem d_Law_corner_5 : decode method_3_code 5 = .ok (.iload_n 2, 1) := F_Law_corner_0.2.2.2.2.1
theorem d_Law_corner_6 : decode method_3_code 6 = .ok (.iload_n 3, 1) := F_Law_corner_0.2.2.2.2.2.1
theorem d_Law_corner_7 : decode method_3_code 7 = .ok (.invokevirtual 7, 3) := F_Law_corner_0.2.2.2.2.2.2.1
theorem d_Law_corner_10 : decode method_3_code 10 = .ok (.i2l, 1) := F_Law_corner_0.2.2.2.2.2.2.2.1
theorem d_Law_corner_11 : decode method_3_code 11 = .ok (.lastore, 1) := F_Law_corner_0.2.2.2.2.2.2.2.2.1
theorem d_Law_corner_12 : decode method_3_code 12 = .ok (.goto (11), 3) := F_Law_corner_0.2.2.2.2.2.2.2.2.2.1
theorem d_Law_corner_15 : decode method_3_code 15 = .ok (.astore 5, 2) := F_Law_corner_0.2.2.2.2.2.2.2.2.2.2.1
theorem d_Law_corner_17 : decode method_3_code 17 = .ok (.iconst 1, 1) := F_Law_corner_0.2.2.2.2.2.2.2.2.2.2.2.1
theorem d_Law_corner_18 : decode method_3_code 18 = .ok (.ireturn, 1) := F_Law_corner_0.2.2.2.2.2.2.2.2.2.2.2.2.1
theorem d_Law_corner_19 : decode method_3_code 19 = .ok (.astore 5, 2) := F_Law_corner_0.2.2.2.2.2.2.2.2.2.2.2.2.2.1
theorem d_Law_corner_21 : decode method_3_code 21 = .ok (.iconst 2, 1) := F_Law_corner_0.2.2.2.2.2.2.2.2.2.2.2.2.2.2.1
theorem d_Law_corner_22 : decode method_3_code 22 = .ok (.ireturn, 1) := F_Law_corner_0.2.2.2.2.2.2.2.2.2.2.2.2.2.2.2.1
theorem d_Law_corner_23 : decode method_3_code 23 = .ok (.iconst 0, 1) := F_Law_corner_0.2.2.2.2.2.2.2.2.2.2.2.2.2.2.2.2.1
theorem d_Law_corner_24 : decode method_3_code 24 = .ok (.ireturn, 1) := F_Law_corner_0.2.2.2.2.2.2.2.2.2.2.2.2.2.2.2.2.2.1
theorem F_MD_corner_13 : Jvm.Free.DS.Facts prog_12_method_42_code 13 [(.iload_n 2, 1), (.ifCond .lt (8), 3), (.iload_n 2, 1), (.iconst 3, 1), (.if_icmp .le (10), 3)] := Jvm.Free.DS.facts 13 _ (by decide +kernel) (by decide +kernel)
theorem d_MD_corner_13 : decode prog_12_method_42_code 13 = .ok (.iload_n 2, 1) := F_MD_corner_13.1
theorem d_MD_corner_14 : decode prog_12_method_42_code 14 = .ok (.ifCond .lt (8), 3) := F_MD_corner_13.2.1
theorem d_MD_corner_17 : decode prog_12_method_42_code 17 = .ok (.iload_n 2, 1) := F_MD_corner_13.2.2.1
theorem d_MD_corner_18 : decode prog_12_method_42_code 18 = .ok (.iconst 3, 1) := F_MD_corner_13.2.2.2.1
theorem d_MD_corner_19 : decode prog_12_method_42_code 19 = .ok (.if_icmp .le (10), 3) := F_MD_corner_13.2.2.2.2.1
theorem F_MD_corner_27 : Jvm.Free.DS.Facts prog_12_method_42_code 27 [(.iconst 0, 1), (.ireturn, 1), (.iload_n 3, 1), (.ifCond .lt (8), 3), (.iload_n 3, 1), (.iconst 1, 1), (.if_icmp .le (10), 3), (.aload_n 0, 1), (.iconst 2, 1), (.putfield 74, 3), (.iconst 0, 1), (.ireturn, 1), (.aload_n 0, 1), (.getfield 15, 3), (.bipush (8), 2), (.iload_n 1, 1), (.imul, 1), (.iconst 2, 1), (.iload_n 2, 1), (.imul, 1), (.iadd, 1), (.iload_n 3, 1), (.iadd, 1), (.iaload, 1), (.ireturn, 1)] := Jvm.Free.DS.facts 27 _ (by decide +kernel) (by decide +kernel)
theorem d_MD_corner_27 : decode prog_12_method_42_code 27 = .ok (.iconst 0, 1) := F_MD_corner_27.1
theorem d_MD_corner_28 : decode prog_12_method_42_code 28 = .ok (.ireturn, 1) := F_MD_corner_27.2.1
theorem d_MD_corner_29 : decode prog_12_method_42_code 29 = .ok (.iload_n 3, 1) := F_MD_corner_27.2.2.1
theorem d_MD_corner_30 : decode prog_12_method_42_code 30 = .ok (.ifCond .lt (8), 3) := F_MD_corner_27.2.2.2.1
theorem d_MD_corner_33 : decode prog_12_method_42_code 33 = .ok (.iload_n 3, 1) := F_MD_corner_27.2.2.2.2.1
theorem d_MD_corner_34 : decode prog_12_method_42_code 34 = .ok (.iconst 1, 1) := F_MD_corner_27.2.2.2.2.2.1
theorem d_MD_corner_35 : decode prog_12_method_42_code 35 = .ok (.if_icmp .le (10), 3) := F_MD_corner_27.2.2.2.2.2.2.1
theorem d_MD_corner_38 : decode prog_12_method_42_code 38 = .ok (.aload_n 0, 1) := F_MD_corner_27.2.2.2.2.2.2.2.1
theorem d_MD_corner_39 : decode prog_12_method_42_code 39 = .ok (.iconst 2, 1) := F_MD_corner_27.2.2.2.2.2.2.2.2.1
theorem d_MD_corner_40 : decode prog_12_method_42_code 40 = .ok (.putfield 74, 3) := F_MD_corner_27.2.2.2.2.2.2.2.2.2.1
theorem d_MD_corner_43 : decode prog_12_method_42_code 43 = .ok (.iconst 0, 1) := F_MD_corner_27.2.2.2.2.2.2.2.2.2.2.1
theorem d_MD_corner_44 : decode prog_12_method_42_code 44 = .ok (.ireturn, 1) := F_MD_corner_27.2.2.2.2.2.2.2.2.2.2.2.1
theorem d_MD_corner_45 : decode prog_12_method_42_code 45 = .ok (.aload_n 0, 1) := F_MD_corner_27.2.2.2.2.2.2.2.2.2.2.2.2.1
theorem d_MD_corner_46 : decode prog_12_method_42_code 46 = .ok (.getfield 15, 3) := F_MD_corner_27.2.2.2.2.2.2.2.2.2.2.2.2.2.1
theorem d_MD_corner_49 : decode prog_12_method_42_code 49 = .ok (.bipush (8), 2) := F_MD_corner_27.2.2.2.2.2.2.2.2.2.2.2.2.2.2.1
theorem d_MD_corner_51 : decode prog_12_method_42_code 51 = .ok (.iload_n 1, 1) := F_MD_corner_27.2.2.2.2.2.2.2.2.2.2.2.2.2.2.2.1
theorem d_MD_corner_52 : decode prog_12_method_42_code 52 = .ok (.imul, 1) := F_MD_corner_27.2.2.2.2.2.2.2.2.2.2.2.2.2.2.2.2.1
theorem d_MD_corner_53 : decode prog_12_method_42_code 53 = .ok (.iconst 2, 1) := F_MD_corner_27.2.2.2.2.2.2.2.2.2.2.2.2.2.2.2.2.2.1
theorem d_MD_corner_54 : decode prog_12_method_42_code 54 = .ok (.iload_n 2, 1) := F_MD_corner_27.2.2.2.2.2.2.2.2.2.2.2.2.2.2.2.2.2.2.1
theorem d_MD_corner_55 : decode prog_12_method_42_code 55 = .ok (.imul, 1) := F_MD_corner_27.2.2.2.2.2.2.2.2.2.2.2.2.2.2.2.2.2.2.2.1
theorem d_MD_corner_56 : decode prog_12_method_42_code 56 = .ok (.iadd, 1) := F_MD_corner_27.2.2.2.2.2.2.2.2.2.2.2.2.2.2.2.2.2.2.2.2.1
theorem d_MD_corner_57 : decode prog_12_method_42_code 57 = .ok (.iload_n 3, 1) := F_MD_corner_27.2.2.2.2.2.2.2.2.2.2.2.2.2.2.2.2.2.2.2.2.2.1
theorem d_MD_corner_58 : decode prog_12_method_42_code 58 = .ok (.iadd, 1) := F_MD_corner_27.2.2.2.2.2.2.2.2.2.2.2.2.2.2.2.2.2.2.2.2.2.2.1
theorem d_MD_corner_59 : decode prog_12_method_42_code 59 = .ok (.iaload, 1) := F_MD_corner_27.2.2.2.2.2.2.2.2.2.2.2.2.2.2.2.2.2.2.2.2.2.2.2.1
theorem d_MD_corner_60 : decode prog_12_method_42_code 60 = .ok (.ireturn, 1) := F_MD_corner_27.2.2.2.2.2.2.2.2.2.2.2.2.2.2.2.2.2.2.2.2.2.2.2.2.1
theorem F_CM_map_14 : Jvm.Free.DS.Facts prog_1_method_6_code 14 [(.dup, 1), (.invokespecial 135, 3), (.athrow, 1), (.iload_n 2, 1), (.invokestatic 154, 3), (.ifCond .eq (10), 3), (.iload_n 3, 1), (.invokestatic 154, 3), (.ifCond .ne (11), 3), (.new 139, 3), (.dup, 1), (.invokespecial 141, 3), (.athrow, 1), (.aload_n 0, 1), (.getfield 12, 3), (.getfield 157, 3), (.iload_n 1, 1), (.aaload, 1), (.iconst 3, 1), (.iload_n 2, 1), (.imul, 1), (.iload_n 3, 1), (.iadd, 1), (.laload, 1), (.l2i, 1), (.ireturn, 1)] := Jvm.Free.DS.facts 14 _ (by decide +kernel) (by decide +kernel)
theorem d_CM_map_14 : decode prog_1_method_6_code 14 = .ok (.dup, 1) := F_CM_map_14.1
theorem d_CM_map_15 : decode prog_1_method_6_code 15 = .ok (.invokespecial 135, 3) := F_CM_map_14.2.1
theorem d_CM_map_18 : decode prog_1_method_6_code 18 = .ok (.athrow, 1) := F_CM_map_14.2.2.1
theorem d_CM_map_19 : decode prog_1_method_6_code 19 = .ok (.iload_n 2, 1) := F_CM_map_14.2.2.2.1
theorem d_CM_map_20 : decode prog_1_method_6_code 20 = .ok (.invokestatic 154, 3) := F_CM_map_14.2.2.2.2.1
theorem d_CM_map_23 : decode prog_1_method_6_code 23 = .ok (.ifCond .eq (10), 3) := F_CM_map_14.2.2.2.2.2.1
theorem d_CM_map_26 : decode prog_1_method_6_code 26 = .ok (.iload_n 3, 1) := F_CM_map_14.2.2.2.2.2.2.1
theorem d_CM_map_27 : decode prog_1_method_6_code 27 = .ok (.invokestatic 154, 3) := F_CM_map_14.2.2.2.2.2.2.2.1
theorem d_CM_map_30 : decode prog_1_method_6_code 30 = .ok (.ifCond .ne (11), 3) := F_CM_map_14.2.2.2.2.2.2.2.2.1
theorem d_CM_map_33 : decode prog_1_method_6_code 33 = .ok (.new 139, 3) := F_CM_map_14.2.2.2.2.2.2.2.2.2.1
theorem d_CM_map_36 : decode prog_1_method_6_code 36 = .ok (.dup, 1) := F_CM_map_14.2.2.2.2.2.2.2.2.2.2.1
theorem d_CM_map_37 : decode prog_1_method_6_code 37 = .ok (.invokespecial 141, 3) := F_CM_map_14.2.2.2.2.2.2.2.2.2.2.2.1
theorem d_CM_map_40 : decode prog_1_method_6_code 40 = .ok (.athrow, 1) := F_CM_map_14.2.2.2.2.2.2.2.2.2.2.2.2.1
theorem d_CM_map_41 : decode prog_1_method_6_code 41 = .ok (.aload_n 0, 1) := F_CM_map_14.2.2.2.2.2.2.2.2.2.2.2.2.2.1
theorem d_CM_map_42 : decode prog_1_method_6_code 42 = .ok (.getfield 12, 3) := F_CM_map_14.2.2.2.2.2.2.2.2.2.2.2.2.2.2.1
theorem d_CM_map_45 : decode prog_1_method_6_code 45 = .ok (.getfield 157, 3) := F_CM_map_14.2.2.2.2.2.2.2.2.2.2.2.2.2.2.2.1
theorem d_CM_map_48 : decode prog_1_method_6_code 48 = .ok (.iload_n 1, 1) := F_CM_map_14.2.2.2.2.2.2.2.2.2.2.2.2.2.2.2.2.1
theorem d_CM_map_49 : decode prog_1_method_6_code 49 = .ok (.aaload, 1) := F_CM_map_14.2.2.2.2.2.2.2.2.2.2.2.2.2.2.2.2.2.1
theorem d_CM_map_50 : decode prog_1_method_6_code 50 = .ok (.iconst 3, 1) := F_CM_map_14.2.2.2.2.2.2.2.2.2.2.2.2.2.2.2.2.2.2.1
theorem d_CM_map_51 : decode prog_1_method_6_code 51 = .ok (.iload_n 2, 1) := F_CM_map_14.2.2.2.2.2.2.2.2.2.2.2.2.2.2.2.2.2.2.2.1
theorem d_CM_map_52 : decode prog_1_method_6_code 52 = .ok (.imul, 1) := F_CM_map_14.2.2.2.2.2.2.2.2.2.2.2.2.2.2.2.2.2.2.2.2.1
theorem d_CM_map_53 : decode prog_1_method_6_code 53 = .ok (.iload_n 3, 1) := F_CM_map_14.2.2.2.2.2.2.2.2.2.2.2.2.2.2.2.2.2.2.2.2.2.1
theorem d_CM_map_54 : decode prog_1_method_6_code 54 = .ok (.iadd, 1) := F_CM_map_14.2.2.2.2.2.2.2.2.2.2.2.2.2.2.2.2.2.2.2.2.2.2.1
theorem d_CM_map_55 : decode prog_1_method_6_code 55 = .ok (.laload, 1) := F_CM_map_14.2.2.2.2.2.2.2.2.2.2.2.2.2.2.2.2.2.2.2.2.2.2.2.1
theorem d_CM_map_56 : decode prog_1_method_6_code 56 = .ok (.l2i, 1) := F_CM_map_14.2.2.2.2.2.2.2.2.2.2.2.2.2.2.2.2.2.2.2.2.2.2.2.2.1
theorem d_CM_map_57 : decode prog_1_method_6_code 57 = .ok (.ireturn, 1) := F_CM_map_14.2.2.2.2.2.2.2.2.2.2.2.2.2.2.2.2.2.2.2.2.2.2.2.2.2.1
theorem F_Law_map_0 : Jvm.Free.DS.Facts method_4_code 0 [(.aload 4, 2), (.iconst 0, 1), (.aload_n 0, 1), (.iload_n 1, 1), (.iload_n 2, 1), (.iload_n 3, 1), (.invokevirtual 17, 3), (.i2l, 1), (.lastore, 1), (.goto (11), 3), (.astore 5, 2), (.iconst 1, 1), (.ireturn, 1), (.astore 5, 2), (.iconst 2, 1), (.ireturn, 1), (.iconst 0, 1), (.ireturn, 1)] := Jvm.Free.DS.facts 0 _ (by decide +kernel) (by decide +kernel)
theorem d_Law_map_0 : decode method_4_code 0 = .ok (.aload 4, 2) := F_Law_map_0.1
theorem d_Law_map_2 : decode method_4_code 2 = .ok (.iconst 0, 1) := F_Law_map_0.2.1
theorem d_Law_map_3 : decode method_4_code 3 = .ok (.aload_n 0, 1) := F_Law_map_0.2.2.1
theorem d_Law_map_4 : decode method_4_code 4 = .ok (.iload_n 1, 1) := F_Law_map_0.2.2.2.1
theorem d_Law_map_5 : decode method_4_code 5 = .ok (.iload_n 2, 1) := F_Law_map_0.2.2.2.2.1
theorem d_Law_map_6 : decode method_4_code 6 = .ok (.iload_n 3, 1) := F_Law_map_0.2.2.2.2.2.1
theorem d_Law_map_7 : decode method_4_code 7 = .ok (.invokevirtual 17, 3) := F_Law_map_0.2.2.2.2.2.2.1
theorem d_Law_map_10 : decode method_4_code 10 = .ok (.i2l, 1) := F_Law_map_0.2.2.2.2.2.2.2.1
theorem d_Law_map_11 : decode method_4_code 11 = .ok (.lastore, 1) := F_Law_map_0.2.2.2.2.2.2.2.2.1
theorem d_Law_map_12 : decode method_4_code 12 = .ok (.goto (11), 3) := F_Law_map_0.2.2.2.2.2.2.2.2.2.1
theorem d_Law_map_15 : decode method_4_code 15 = .ok (.astore 5, 2) := F_Law_map_0.2.2.2.2.2.2.2.2.2.2.1
theorem d_Law_map_17 : decode method_4_code 17 = .ok (.iconst 1, 1) := F_Law_map_0.2.2.2.2.2.2.2.2.2.2.2.1
theorem d_Law_map_18 : decode method_4_code 18 = .ok (.ireturn, 1) := F_Law_map_0.2.2.2.2.2.2.2.2.2.2.2.2.1
theorem d_Law_map_19 : decode method_4_code 19 = .ok (.astore 5, 2) := F_Law_map_0.2.2.2.2.2.2.2.2.2.2.2.2.2.1
theorem d_Law_map_21 : decode method_4_code 21 = .ok (.iconst 2, 1) := F_Law_map_0.2.2.2.2.2.2.2.2.2.2.2.2.2.2.1
theorem d_Law_map_22 : decode method_4_code 22 = .ok (.ireturn, 1) := F_Law_map_0.2.2.2.2.2.2.2.2.2.2.2.2.2.2.2.1
theorem d_Law_map_23 : decode method_4_code 23 = .ok (.iconst 0, 1) := F_Law_map_0.2.2.2.2.2.2.2.2.2.2.2.2.2.2.2.2.1
theorem d_Law_map_24 : decode method_4_code 24 = .ok (.ireturn, 1) := F_Law_map_0.2.2.2.2.2.2.2.2.2.2.2.2.2.2.2.2.2.1
theorem F_MD_map_18 : Jvm.Free.DS.Facts prog_12_method_43_code 18 [(.iconst 0, 1), (.ireturn, 1), (.iload_n 2, 1), (.invokestatic 244, 3), (.ifCond .eq (10), 3), (.iload_n 3, 1), (.invokestatic 244, 3), (.ifCond .ne (10), 3), (.aload_n 0, 1), (.iconst 2, 1), (.putfield 74, 3), (.iconst 0, 1), (.ireturn, 1), (.aload_n 0, 1), (.getfield 21, 3), (.bipush (9), 2), (.iload_n 1, 1), (.imul, 1), (.iconst 3, 1), (.iload_n 2, 1), (.imul, 1), (.iadd, 1), (.iload_n 3, 1), (.iadd, 1), (.laload, 1), (.l2i, 1), (.ireturn, 1)] := Jvm.Free.DS.facts 18 _ (by decide +kernel) (by decide +kernel)
theorem d_MD_map_18 : decode prog_12_method_43_code 18 = .ok (.iconst 0, 1) := F_MD_map_18.1
theorem d_MD_map_19 : decode prog_12_method_43_code 19 = .ok (.ireturn, 1) := F_MD_map_18.2.1
theorem d_MD_map_20 : decode prog_12_method_43_code 20 = .ok (.iload_n 2, 1) := F_MD_map_18.2.2.1
theorem d_MD_map_21 : decode prog_12_method_43_code 21 = .ok (.invokestatic 244, 3) := F_MD_map_18.2.2.2.1
theorem d_MD_map_24 : decode prog_12_method_43_code 24 = .ok (.ifCond .eq (10), 3) := F_MD_map_18.2.2.2.2.1
theorem d_MD_map_27 : decode prog_12_method_43_code 27 = .ok (.iload_n 3, 1) := F_MD_map_18.2.2.2.2.2.1
theorem d_MD_map_28 : decode prog_12_method_43_code 28 = .ok (.invokestatic 244, 3) := F_MD_map_18.2.2.2.2.2.2.1
theorem d_MD_map_31 : decode prog_12_method_43_code 31 = .ok (.ifCond .ne (10), 3) := F_MD_map_18.2.2.2.2.2.2.2.1
theorem d_MD_map_34 : decode prog_12_method_43_code 34 = .ok (.aload_n 0, 1) := F_MD_map_18.2.2.2.2.2.2.2.2.1
theorem d_MD_map_35 : decode prog_12_method_43_code 35 = .ok (.iconst 2, 1) := F_MD_map_18.2.2.2.2.2.2.2.2.2.1
theorem d_MD_map_36 : decode prog_12_method_43_code 36 = .ok (.putfield 74, 3) := F_MD_map_18.2.2.2.2.2.2.2.2.2.2.1
theorem d_MD_map_39 : decode prog_12_method_43_code 39 = .ok (.iconst 0, 1) := F_MD_map_18.2.2.2.2.2.2.2.2.2.2.2.1
theorem d_MD_map_40 : decode prog_12_method_43_code 40 = .ok (.ireturn, 1) := F_MD_map_18.2.2.2.2.2.2.2.2.2.2.2.2.1
theorem d_MD_map_41 : decode prog_12_method_43_code 41 = .ok (.aload_n 0, 1) := F_MD_map_18.2.2.2.2.2.2.2.2.2.2.2.2.2.1
theorem d_MD_map_42 : decode prog_12_method_43_code 42 = .ok (.getfield 21, 3) := F_MD_map_18.2.2.2.2.2.2.2.2.2.2.2.2.2.2.1
theorem d_MD_map_45 : decode prog_12_method_43_code 45 = .ok (.bipush (9), 2) := F_MD_map_18.2.2.2.2.2.2.2.2.2.2.2.2.2.2.2.1
theorem d_MD_map_47 : decode prog_12_method_43_code 47 = .ok (.iload_n 1, 1) := F_MD_map_18.2.2.2.2.2.2.2.2.2.2.2.2.2.2.2.2.1
theorem d_MD_map_48 : decode prog_12_method_43_code 48 = .ok (.imul, 1) := F_MD_map_18.2.2.2.2.2.2.2.2.2.2.2.2.2.2.2.2.2.1
theorem d_MD_map_49 : decode prog_12_method_43_code 49 = .ok (.iconst 3, 1) := F_MD_map_18.2.2.2.2.2.2.2.2.2.2.2.2.2.2.2.2.2.2.1
theorem d_MD_map_50 : decode prog_12_method_43_code 50 = .ok (.iload_n 2, 1) := F_MD_map_18.2.2.2.2.2.2.2.2.2.2.2.2.2.2.2.2.2.2.2.1
theorem d_MD_map_51 : decode prog_12_method_43_code 51 = .ok (.imul, 1) := F_MD_map_18.2.2.2.2.2.2.2.2.2.2.2.2.2.2.2.2.2.2.2.2.1
theorem d_MD_map_52 : decode prog_12_method_43_code 52 = .ok (.iadd, 1) := F_MD_map_18.2.2.2.2.2.2.2.2.2.2.2.2.2.2.2.2.2.2.2.2.2.1
theorem d_MD_map_53 : decode prog_12_method_43_code 53 = .ok (.iload_n 3, 1) := F_MD_map_18.2.2.2.2.2.2.2.2.2.2.2.2.2.2.2.2.2.2.2.2.2.2.1
theorem d_MD_map_54 : decode prog_12_method_43_code 54 = .ok (.iadd, 1) := F_MD_map_18.2.2.2.2.2.2.2.2.2.2.2.2.2.2.2.2.2.2.2.2.2.2.2.1
theorem d_MD_map_55 : decode prog_12_method_43_code 55 = .ok (.laload, 1) := F_MD_map_18.2.2.2.2.2.2.2.2.2.2.2.2.2.2.2.2.2.2.2.2.2.2.2.2.1
theorem d_MD_map_56 : decode prog_12_method_43_code 56 = .ok (.l2i, 1) := F_MD_map_18.2.2.2.2.2.2.2.2.2.2.2.2.2.2.2.2.2.2.2.2.2.2.2.2.2.1
theorem d_MD_map_57 : decode prog_12_method_43_code 57 = .ok (.ireturn, 1) := F_MD_map_18.2.2.2.2.2.2.2.2.2.2.2.2.2.2.2.2.2.2.2.2.2.2.2.2.2.2.1
theorem F_CM_point_14 : Jvm.Free.DS.Facts prog_1_method_7_code 14 [(.dup, 1), (.invokespecial 135, 3), (.athrow, 1), (.iload_n 2, 1), (.invokestatic 154, 3), (.ifCond .ne (11), 3), (.new 139, 3), (.dup, 1), (.invokespecial 141, 3), (.athrow, 1), (.aload_n 0, 1), (.getfield 12, 3), (.getfield 163, 3), (.iload_n 1, 1), (.aaload, 1), (.iload_n 2, 1), (.laload, 1), (.l2i, 1), (.ireturn, 1)] := Jvm.Free.DS.facts 14 _ (by decide +kernel) (by decide +kernel)
theorem d_CM_point_14 : decode prog_1_method_7_code 14 = .ok (.dup, 1) := F_CM_point_14.1
theorem d_CM_point_15 : decode prog_1_method_7_code 15 = .ok (.invokespecial 135, 3) := F_CM_point_14.2.1
theorem d_CM_point_18 : decode prog_1_method_7_code 18 = .ok (.athrow, 1) := F_CM_point_14.2.2.1
theorem d_CM_point_19 : decode prog_1_method_7_code 19 = .ok (.iload_n 2, 1) := F_CM_point_14.2.2.2.1
theorem d_CM_point_20 : decode prog_1_method_7_code 20 = .ok (.invokestatic 154, 3) := F_CM_point_14.2.2.2.2.1
theorem d_CM_point_23 : decode prog_1_method_7_code 23 = .ok (.ifCond .ne (11), 3) := F_CM_point_14.2.2.2.2.2.1
theorem d_CM_point_26 : decode prog_1_method_7_code 26 = .ok (.new 139, 3) := F_CM_point_14.2.2.2.2.2.2.1
theorem d_CM_point_29 : decode prog_1_method_7_code 29 = .ok (.dup, 1) := F_CM_point_14.2.2.2.2.2.2.2.1
theorem d_CM_point_30 : decode prog_1_method_7_code 30 = .ok (.invokespecial 141, 3) := F_CM_point_14.2.2.2.2.2.2.2.2.1
theorem d_CM_point_33 : decode prog_1_method_7_code 33 = .ok (.athrow, 1) := F_CM_point_14.2.2.2.2.2.2.2.2.2.1
theorem d_CM_point_34 : decode prog_1_method_7_code 34 = .ok (.aload_n 0, 1) := F_CM_point_14.2.2.2.2.2.2.2.2.2.2.1
theorem d_CM_point_35 : decode prog_1_method_7_code 35 = .ok (.getfield 12, 3) := F_CM_point_14.2.2.2.2.2.2.2.2.2.2.2.1
theorem d_CM_point_38 : decode prog_1_method_7_code 38 = .ok (.getfield 163, 3) := F_CM_point_14.2.2.2.2.2.2.2.2.2.2.2.2.1
theorem d_CM_point_41 : decode prog_1_method_7_code 41 = .ok (.iload_n 1, 1) := F_CM_point_14.2.2.2.2.2.2.2.2.2.2.2.2.2.1
theorem d_CM_point_42 : decode prog_1_method_7_code 42 = .ok (.aaload, 1) := F_CM_point_14.2.2.2.2.2.2.2.2.2.2.2.2.2.2.1
theorem d_CM_point_43 : decode prog_1_method_7_code 43 = .ok (.iload_n 2, 1) := F_CM_point_14.2.2.2.2.2.2.2.2.2.2.2.2.2.2.2.1
theorem d_CM_point_44 : decode prog_1_method_7_code 44 = .ok (.laload, 1) := F_CM_point_14.2.2.2.2.2.2.2.2.2.2.2.2.2.2.2.2.1
theorem d_CM_point_45 : decode prog_1_method_7_code 45 = .ok (.l2i, 1) := F_CM_point_14.2.2.2.2.2.2.2.2.2.2.2.2.2.2.2.2.2.1
theorem d_CM_point_46 : decode prog_1_method_7_code 46 = .ok (.ireturn, 1) := F_CM_point_14.2.2.2.2.2.2.2.2.2.2.2.2.2.2.2.2.2.2.1
theorem F_Law_point_0 : Jvm.Free.DS.Facts method_5_code 0 [(.aload_n 3, 1), (.iconst 0, 1), (.aload_n 0, 1), (.iload_n 1, 1), (.iload_n 2, 1), (.invokevirtual 20, 3), (.i2l, 1), (.lastore, 1), (.goto (11), 3), (.astore 4, 2), (.iconst 1, 1), (.ireturn, 1), (.astore 4, 2), (.iconst 2, 1), (.ireturn, 1), (.iconst 0, 1), (.ireturn, 1)] := Jvm.Free.DS.facts 0 _ (by decide +kernel) (by decide +kernel)
theorem d_Law_point_0 : decode method_5_code 0 = .ok (.aload_n 3, 1) := F_Law_point_0.1
theorem d_Law_point_1 : decode method_5_code 1 = .ok (.iconst 0, 1) := F_Law_point_0.2.1
theorem d_Law_point_2 : decode method_5_code 2 = .ok (.aload_n 0, 1) := F_Law_point_0.2.2.1
theorem d_Law_point_3 : decode method_5_code 3 = .ok (.iload_n 1, 1) := F_Law_point_0.2.2.2.1
theorem d_Law_point_4 : decode method_5_code 4 = .ok (.iload_n 2, 1) := F_Law_point_0.2.2.2.2.1
theorem d_Law_point_5 : decode method_5_code 5 = .ok (.invokevirtual 20, 3) := F_Law_point_0.2.2.2.2.2.1
theorem d_Law_point_8 : decode method_5_code 8 = .ok (.i2l, 1) := F_Law_point_0.2.2.2.2.2.2.1
theorem d_Law_point_9 : decode method_5_code 9 = .ok (.lastore, 1) := F_Law_point_0.2.2.2.2.2.2.2.1
theorem d_Law_point_10 : decode method_5_code 10 = .ok (.goto (11), 3) := F_Law_point_0.2.2.2.2.2.2.2.2.1
theorem d_Law_point_13 : decode method_5_code 13 = .ok (.astore 4, 2) := F_Law_point_0.2.2.2.2.2.2.2.2.2.1
theorem d_Law_point_15 : decode method_5_code 15 = .ok (.iconst 1, 1) := F_Law_point_0.2.2.2.2.2.2.2.2.2.2.1
theorem d_Law_point_16 : decode method_5_code 16 = .ok (.ireturn, 1) := F_Law_point_0.2.2.2.2.2.2.2.2.2.2.2.1
theorem d_Law_point_17 : decode method_5_code 17 = .ok (.astore 4, 2) := F_Law_point_0.2.2.2.2.2.2.2.2.2.2.2.2.1
theorem d_Law_point_19 : decode method_5_code 19 = .ok (.iconst 2, 1) := F_Law_point_0.2.2.2.2.2.2.2.2.2.2.2.2.2.1
theorem d_Law_point_20 : decode method_5_code 20 = .ok (.ireturn, 1) := F_Law_point_0.2.2.2.2.2.2.2.2.2.2.2.2.2.2.1
theorem d_Law_point_21 : decode method_5_code 21 = .ok (.iconst 0, 1) := F_Law_point_0.2.2.2.2.2.2.2.2.2.2.2.2.2.2.2.1
theorem d_Law_point_22 : decode method_5_code 22 = .ok (.ireturn, 1) := F_Law_point_0.2.2.2.2.2.2.2.2.2.2.2.2.2.2.2.2.1
theorem F_MD_point_18 : Jvm.Free.DS.Facts prog_12_method_44_code 18 [(.iconst 0, 1), (.ireturn, 1), (.iload_n 2, 1), (.invokestatic 244, 3), (.ifCond .ne (10), 3), (.aload_n 0, 1), (.iconst 2, 1), (.putfield 74, 3), (.iconst 0, 1), (.ireturn, 1), (.aload_n 0, 1), (.iload_n 1, 1), (.iload_n 2, 1), (.invokevirtual 250, 3), (.l2i, 1), (.ireturn, 1)] := Jvm.Free.DS.facts 18 _ (by decide +kernel) (by decide +kernel)
theorem d_MD_point_18 : decode prog_12_method_44_code 18 = .ok (.iconst 0, 1) := F_MD_point_18.1
theorem d_MD_point_19 : decode prog_12_method_44_code 19 = .ok (.ireturn, 1) := F_MD_point_18.2.1
theorem d_MD_point_20 : decode prog_12_method_44_code 20 = .ok (.iload_n 2, 1) := F_MD_point_18.2.2.1
theorem d_MD_point_21 : decode prog_12_method_44_code 21 = .ok (.invokestatic 244, 3) := F_MD_point_18.2.2.2.1
theorem d_MD_point_24 : decode prog_12_method_44_code 24 = .ok (.ifCond .ne (10), 3) := F_MD_point_18.2.2.2.2.1
theorem d_MD_point_27 : decode prog_12_method_44_code 27 = .ok (.aload_n 0, 1) := F_MD_point_18.2.2.2.2.2.1
theorem d_MD_point_28 : decode prog_12_method_44_code 28 = .ok (.iconst 2, 1) := F_MD_point_18.2.2.2.2.2.2.1
theorem d_MD_point_29 : decode prog_12_method_44_code 29 = .ok (.putfield 74, 3) := F_MD_point_18.2.2.2.2.2.2.2.1
theorem d_MD_point_32 : decode prog_12_method_44_code 32 = .ok (.iconst 0, 1) := F_MD_point_18.2.2.2.2.2.2.2.2.1
theorem d_MD_point_33 : decode prog_12_method_44_code 33 = .ok (.ireturn, 1) := F_MD_point_18.2.2.2.2.2.2.2.2.2.1
theorem d_MD_point_34 : decode prog_12_method_44_code 34 = .ok (.aload_n 0, 1) := F_MD_point_18.2.2.2.2.2.2.2.2.2.2.1
theorem d_MD_point_35 : decode prog_12_method_44_code 35 = .ok (.iload_n 1, 1) := F_MD_point_18.2.2.2.2.2.2.2.2.2.2.2.1
theorem d_MD_point_36 : decode prog_12_method_44_code 36 = .ok (.iload_n 2, 1) := F_MD_point_18.2.2.2.2.2.2.2.2.2.2.2.2.1
theorem d_MD_point_37 : decode prog_12_method_44_code 37 = .ok (.invokevirtual 250, 3) := F_MD_point_18.2.2.2.2.2.2.2.2.2.2.2.2.2.1
theorem d_MD_point_40 : decode prog_12_method_44_code 40 = .ok (.l2i, 1) := F_MD_point_18.2.2.2.2.2.2.2.2.2.2.2.2.2.2.1
theorem d_MD_point_41 : decode prog_12_method_44_code 41 = .ok (.ireturn, 1) := F_MD_point_18.2.2.2.2.2.2.2.2.2.2.2.2.2.2.2.1
theorem F_MD_thrown_0 : Jvm.Free.DS.Facts prog_12_method_2_code 0 [(.aload_n 0, 1), (.getfield 74, 3), (.ireturn, 1)] := Jvm.Free.DS.facts 0 _ (by decide +kernel) (by decide +kernel)
theorem d_MD_thrown_0 : decode prog_12_method_2_code 0 = .ok (.aload_n 0, 1) := F_MD_thrown_0.1
theorem d_MD_thrown_1 : decode prog_12_method_2_code 1 = .ok (.getfield 74, 3) := F_MD_thrown_0.2.1
theorem d_MD_thrown_4 : decode prog_12_method_2_code 4 = .ok (.ireturn, 1) := F_MD_thrown_0.2.2.1
theorem pn_Law_corner : plainName M_Law_corner.1.cls = true := by decide +kernel
theorem pn_Law_map : plainName M_Law_map.1.cls = true := by decide +kernel
theorem pn_Law_point : plainName M_Law_point.1.cls = true := by decide +kernel
theorem thr_IOO : ThrOK "CornerMaps" 133 135 "java/lang/IndexOutOfBoundsException" := ⟨by decide +kernel, by decide +kernel, by decide +kernel⟩
def mf1 : List Value := [.int 1, .ref 468, .int 0, .ref 469, .ref 470, .int 0, .int 0, .ref 471, .ref 472, .ref 473, .int 0, .int 0, .int 0, .ref 474, .ref 475, .int 0, .int 0, .int 0, .int 0, .int 0, .int 0, .int 0, .int 0, .int 0, .int (-1), .ref 476, .ref 477, .ref 478, .ref 479, .ref 480, .ref 481, .ref 482, .ref 483, .int 0, .ref 484, .int 0, .ref 485, .int 0]
theorem n_castIOO : Cond.castable "java/lang/IndexOutOfBoundsException" "java/lang/IndexOutOfBoundsException" ∈ ntbl := nt_at 1443 (by decide +kernel) rfl
theorem x_CM_corner {G : pG} {w : pW} (hl : (g_l G).stackTraces = false) (hC : Has cfL w.2) (hx : w.1 < 1000000) (a1 a2 a3 : Int32) : XM G M_CM_corner 6 1 6 [.ref 0, .int a1, .int a2, .int a3] w (fun _ _ => False) (fun E w' => E = "java/lang/IndexOutOfBoundsException" ∧ w' = (w.1 + 1, w.2)) := by
  refine XM_of pn_CM_corner (le_b rfl) ?_
  show PW _ _ _ _ _ _ (0, [(0, .ref 0), (1, .int a1), (2, .int a2), (3, .int a3)], [], w)
  refine P_aload_n d_CM_corner_0 rfl ?_
  refine P_getf (i := 0) d_CM_corner_1 ok_CM (by decide) L_CM_12 (fa hC 28 rfl) rfl ?_
  refine P_iload_n d_CM_corner_4 rfl ?_
  refine P_callV (M := M_CM_corner) (pc := 5) (as := [.int a1]) (b := 1) d_CM_corner_5 co_Plane_hasQuad ok_Plane (fa hC 29 rfl) L_CM_127 im_Plane_hasQuad se_Plane_hasQuad (z_Plane_hasQuad hC a1) rfl ⟨by decide, by decide⟩ ⟨by decide, by decide⟩ (by decide) ?_ _ rfl
  rintro _ _ ⟨rfl, rfl⟩
  show PW _ _ _ _ _ _ (8, _, [.int 0], _)
  refine P_if_eq 18 d_CM_corner_8 (by decide) (fun _ => ?_) (fun h => absurd (by decide) h)
  exact P_throw hl thr_IOO co_CM_corner.1 d_CM_corner_18 d_CM_corner_21 d_CM_corner_22 d_CM_corner_25 ⟨le_b rfl, le_b rfl, le_b rfl, le_b rfl⟩ (le_b rfl) hx (le_b rfl) (le_b rfl) ⟨rfl, rfl⟩
theorem cw_Law_corner : Cond.codeWith M_Law_corner.1 M_Law_corner.2.1 M_Law_corner.2.2.1 M_Law_corner.2.2.2 [(0, 12, 15, 13), (0, 12, 19, 15)] ∈ gtbl := g_at 1434 (by decide +kernel) rfl
theorem z_Law_corner {G : pG} {w : pW} (hl : (g_l G).stackTraces = false) (hC : Has cfL w.2) (hx : w.1 < 1000000) (a1 a2 a3 : Int32) (o : Nat) : PMW G M_Law_corner [(0, 12, 15, 13), (0, 12, 19, 15)] 7 1 6 [.ref 0, .int a1, .int a2, .int a3, .ref o] w (fun r w' => r = some (.int 1) ∧ w' = (w.1 + 1, w.2)) := by
  refine PMW_of pn_Law_corner (le_b rfl) ?_
  show PW _ _ _ _ _ _ (0, [(0, .ref 0), (1, .int a1), (2, .int a2), (3, .int a3), (4, .ref o)], [], w)
  refine P_aload d_Law_corner_0 rfl ?_
  refine P_iconst (v := 0) d_Law_corner_2 (by decide) ?_
  refine P_aload_n d_Law_corner_3 rfl ?_
  refine P_iload_n d_Law_corner_4 rfl ?_
  refine P_iload_n d_Law_corner_5 rfl ?_
  refine P_iload_n d_Law_corner_6 rfl ?_
  refine P_callVX (M := M_Law_corner) (pc := 7) (as := [.int a1, .int a2, .int a3]) (b := 0) d_Law_corner_7 co_CM_corner ok_CM (fa hC 28 rfl) L_Law_7 im_CM_corner se_CM_corner (x_CM_corner hl hC hx a1 a2 a3) rfl ⟨le_b rfl, le_b rfl⟩ ⟨le_b rfl, le_b rfl⟩ (le_b rfl) cw_Law_corner ?_ (fun _ _ h => h.elim) _ rfl
  rintro _ _ ⟨rfl, rfl⟩
  refine ⟨[], _, _, "java/lang/IndexOutOfBoundsException", 5, rfl, (fun z hz => nomatch hz), rfl, by decide, L_Law_13, n_castIOO, d_Law_corner_15, by decide, ?_⟩
  show PW _ _ _ _ _ _ (17, [], [], (w.1 + 1, w.2))
  refine P_iconst (v := 1) d_Law_corner_17 (by decide) ?_
  exact P_iret d_Law_corner_18 rfl (le_b rfl) (le_b rfl) ⟨rfl, rfl⟩
theorem z_MD_corner {G : pG} {w : pW} (hM : Has mfL w.2) (a1 a2 a3 : Int32) : PM G M_MD_corner 1 0 0 [.ref 467, .int a1, .int a2, .int a3] w (fun r w' => r = some (.int 0) ∧ w' = (w.1, wu w.2 467 (.inr (9, mf1)))) := by
  refine PM_of pn_MD_corner (le_b rfl) ?_
  show PW _ _ _ _ _ _ (0, [(0, .ref 467), (1, .int a1), (2, .int a2), (3, .int a3)], [], w)
  refine P_aload_n d_MD_corner_0 rfl ?_
  refine P_iconst (v := 0) d_MD_corner_1 (by decide) ?_
  refine P_putS (i := 0) d_MD_corner_2 ok_Model (by decide) rfl L_MD_74 (fa hM 18 rfl) (fun _ => rfl) (fun _ => rfl) rfl ?_
  refine P_aload_n d_MD_corner_5 rfl ?_
  refine P_iload_n d_MD_corner_6 rfl ?_
  refine P_callV (M := M_MD_corner) (pc := 7) (as := [.int a1]) (b := 467) d_MD_corner_7 co_MD_isQuad ok_Model (fa hM 18 rfl) L_MD_238 im_MD_isQuad se_MD_isQuad (z_MD_isQuad hM a1) rfl ⟨by decide, by decide⟩ ⟨by decide, by decide⟩ (by decide) ?_ _ rfl
  rintro _ _ ⟨rfl, rfl⟩
  show PW _ _ _ _ _ _ (10, _, [.int 0], _)
  refine P_if_eq 22 d_MD_corner_10 (by decide) (fun _ => ?_) (fun h => absurd (by decide) h)
  refine P_aload_n d_MD_corner_22 rfl ?_
  refine P_iconst (v := 1) d_MD_corner_23 (by decide) ?_
  refine P_put (i := 0) d_MD_corner_24 ok_Model (by decide) rfl L_MD_74 (fa hM 18 rfl) (fun _ => rfl) (fun _ => rfl) ?_
  refine P_iconst (v := 0) d_MD_corner_27 (by decide) ?_
  exact P_iret d_MD_corner_28 rfl (le_b rfl) (le_b rfl) ⟨rfl, rfl⟩
theorem x_CM_map {G : pG} {w : pW} (hl : (g_l G).stackTraces = false) (hC : Has cfL w.2) (hx : w.1 < 1000000) (a1 a2 a3 : Int32) : XM G M_CM_map 6 1 6 [.ref 0, .int a1, .int a2, .int a3] w (fun _ _ => False) (fun E w' => E = "java/lang/IndexOutOfBoundsException" ∧ w' = (w.1 + 1, w.2)) := by
  refine XM_of pn_CM_map (le_b rfl) ?_
  show PW _ _ _ _ _ _ (0, [(0, .ref 0), (1, .int a1), (2, .int a2), (3, .int a3)], [], w)
  refine P_aload_n d_CM_map_0 rfl ?_
  refine P_getf (i := 0) d_CM_map_1 ok_CM (by decide) L_CM_12 (fa hC 28 rfl) rfl ?_
  refine P_iload_n d_CM_map_4 rfl ?_
  refine P_callV (M := M_CM_map) (pc := 5) (as := [.int a1]) (b := 1) d_CM_map_5 co_Plane_hasMap ok_Plane (fa hC 29 rfl) L_CM_151 im_Plane_hasMap se_Plane_hasMap (z_Plane_hasMap hC a1) rfl ⟨by decide, by decide⟩ ⟨by decide, by decide⟩ (by decide) ?_ _ rfl
  rintro _ _ ⟨rfl, rfl⟩
  show PW _ _ _ _ _ _ (8, _, [.int 0], _)
  refine P_if_ne 19 d_CM_map_8 (by decide) (fun h => absurd (by decide) h) (fun _ => ?_)
  exact P_throw hl thr_IOO co_CM_map.1 d_CM_map_11 d_CM_map_14 d_CM_map_15 d_CM_map_18 ⟨le_b rfl, le_b rfl, le_b rfl, le_b rfl⟩ (le_b rfl) hx (le_b rfl) (le_b rfl) ⟨rfl, rfl⟩
theorem cw_Law_map : Cond.codeWith M_Law_map.1 M_Law_map.2.1 M_Law_map.2.2.1 M_Law_map.2.2.2 [(0, 12, 15, 13), (0, 12, 19, 15)] ∈ gtbl := g_at 1479 (by decide +kernel) rfl
theorem z_Law_map {G : pG} {w : pW} (hl : (g_l G).stackTraces = false) (hC : Has cfL w.2) (hx : w.1 < 1000000) (a1 a2 a3 : Int32) (o : Nat) : PMW G M_Law_map [(0, 12, 15, 13), (0, 12, 19, 15)] 7 1 6 [.ref 0, .int a1, .int a2, .int a3, .ref o] w (fun r w' => r = some (.int 1) ∧ w' = (w.1 + 1, w.2)) := by
  refine PMW_of pn_Law_map (le_b rfl) ?_
  show PW _ _ _ _ _ _ (0, [(0, .ref 0), (1, .int a1), (2, .int a2), (3, .int a3), (4, .ref o)], [], w)
  refine P_aload d_Law_map_0 rfl ?_
  refine P_iconst (v := 0) d_Law_map_2 (by decide) ?_
  refine P_aload_n d_Law_map_3 rfl ?_
  refine P_iload_n d_Law_map_4 rfl ?_
  refine P_iload_n d_Law_map_5 rfl ?_
  refine P_iload_n d_Law_map_6 rfl ?_
  refine P_callVX (M := M_Law_map) (pc := 7) (as := [.int a1, .int a2, .int a3]) (b := 0) d_Law_map_7 co_CM_map ok_CM (fa hC 28 rfl) L_Law_17 im_CM_map se_CM_map (x_CM_map hl hC hx a1 a2 a3) rfl ⟨le_b rfl, le_b rfl⟩ ⟨le_b rfl, le_b rfl⟩ (le_b rfl) cw_Law_map ?_ (fun _ _ h => h.elim) _ rfl
  rintro _ _ ⟨rfl, rfl⟩
  refine ⟨[], _, _, "java/lang/IndexOutOfBoundsException", 5, rfl, (fun z hz => nomatch hz), rfl, by decide, L_Law_13, n_castIOO, d_Law_map_15, by decide, ?_⟩
  show PW _ _ _ _ _ _ (17, [], [], (w.1 + 1, w.2))
  refine P_iconst (v := 1) d_Law_map_17 (by decide) ?_
  exact P_iret d_Law_map_18 rfl (le_b rfl) (le_b rfl) ⟨rfl, rfl⟩
theorem z_MD_map {G : pG} {w : pW} (hM : Has mfL w.2) (a1 a2 a3 : Int32) : PM G M_MD_map 1 0 0 [.ref 467, .int a1, .int a2, .int a3] w (fun r w' => r = some (.int 0) ∧ w' = (w.1, wu w.2 467 (.inr (9, mf1)))) := by
  refine PM_of pn_MD_map (le_b rfl) ?_
  show PW _ _ _ _ _ _ (0, [(0, .ref 467), (1, .int a1), (2, .int a2), (3, .int a3)], [], w)
  refine P_aload_n d_MD_map_0 rfl ?_
  refine P_iconst (v := 0) d_MD_map_1 (by decide) ?_
  refine P_putS (i := 0) d_MD_map_2 ok_Model (by decide) rfl L_MD_74 (fa hM 18 rfl) (fun _ => rfl) (fun _ => rfl) rfl ?_
  refine P_aload_n d_MD_map_5 rfl ?_
  refine P_iload_n d_MD_map_6 rfl ?_
  refine P_callV (M := M_MD_map) (pc := 7) (as := [.int a1]) (b := 467) d_MD_map_7 co_MD_isMap ok_Model (fa hM 18 rfl) L_MD_241 im_MD_isMap se_MD_isMap (z_MD_isMap hM a1) rfl ⟨by decide, by decide⟩ ⟨by decide, by decide⟩ (by decide) ?_ _ rfl
  rintro _ _ ⟨rfl, rfl⟩
  show PW _ _ _ _ _ _ (10, _, [.int 0], _)
  refine P_if_ne 20 d_MD_map_10 (by decide) (fun h => absurd (by decide) h) (fun _ => ?_)
  refine P_aload_n d_MD_map_13 rfl ?_
  refine P_iconst (v := 1) d_MD_map_14 (by decide) ?_
  refine P_put (i := 0) d_MD_map_15 ok_Model (by decide) rfl L_MD_74 (fa hM 18 rfl) (fun _ => rfl) (fun _ => rfl) ?_
  refine P_iconst (v := 0) d_MD_map_18 (by decide) ?_
  exact P_iret d_MD_map_19 rfl (le_b rfl) (le_b rfl) ⟨rfl, rfl⟩
theorem x_CM_point {G : pG} {w : pW} (hl : (g_l G).stackTraces = false) (hC : Has cfL w.2) (hx : w.1 < 1000000) (a1 a2 : Int32) : XM G M_CM_point 6 1 6 [.ref 0, .int a1, .int a2] w (fun _ _ => False) (fun E w' => E = "java/lang/IndexOutOfBoundsException" ∧ w' = (w.1 + 1, w.2)) := by
  refine XM_of pn_CM_point (le_b rfl) ?_
  show PW _ _ _ _ _ _ (0, [(0, .ref 0), (1, .int a1), (2, .int a2)], [], w)
  refine P_aload_n d_CM_point_0 rfl ?_
  refine P_getf (i := 0) d_CM_point_1 ok_CM (by decide) L_CM_12 (fa hC 28 rfl) rfl ?_
  refine P_iload_n d_CM_point_4 rfl ?_
  refine P_callV (M := M_CM_point) (pc := 5) (as := [.int a1]) (b := 1) d_CM_point_5 co_Plane_hasPoint ok_Plane (fa hC 29 rfl) L_CM_160 im_Plane_hasPoint se_Plane_hasPoint (z_Plane_hasPoint hC a1) rfl ⟨by decide, by decide⟩ ⟨by decide, by decide⟩ (by decide) ?_ _ rfl
  rintro _ _ ⟨rfl, rfl⟩
  show PW _ _ _ _ _ _ (8, _, [.int 0], _)
  refine P_if_ne 19 d_CM_point_8 (by decide) (fun h => absurd (by decide) h) (fun _ => ?_)
  exact P_throw hl thr_IOO co_CM_point.1 d_CM_point_11 d_CM_point_14 d_CM_point_15 d_CM_point_18 ⟨le_b rfl, le_b rfl, le_b rfl, le_b rfl⟩ (le_b rfl) hx (le_b rfl) (le_b rfl) ⟨rfl, rfl⟩
theorem cw_Law_point : Cond.codeWith M_Law_point.1 M_Law_point.2.1 M_Law_point.2.2.1 M_Law_point.2.2.2 [(0, 10, 13, 13), (0, 10, 17, 15)] ∈ gtbl := g_at 1486 (by decide +kernel) rfl
theorem z_Law_point {G : pG} {w : pW} (hl : (g_l G).stackTraces = false) (hC : Has cfL w.2) (hx : w.1 < 1000000) (a1 a2 : Int32) (o : Nat) : PMW G M_Law_point [(0, 10, 13, 13), (0, 10, 17, 15)] 7 1 6 [.ref 0, .int a1, .int a2, .ref o] w (fun r w' => r = some (.int 1) ∧ w' = (w.1 + 1, w.2)) := by
  refine PMW_of pn_Law_point (le_b rfl) ?_
  show PW _ _ _ _ _ _ (0, [(0, .ref 0), (1, .int a1), (2, .int a2), (3, .ref o)], [], w)
  refine P_aload_n d_Law_point_0 rfl ?_
  refine P_iconst (v := 0) d_Law_point_1 (by decide) ?_
  refine P_aload_n d_Law_point_2 rfl ?_
  refine P_iload_n d_Law_point_3 rfl ?_
  refine P_iload_n d_Law_point_4 rfl ?_
  refine P_callVX (M := M_Law_point) (pc := 5) (as := [.int a1, .int a2]) (b := 0) d_Law_point_5 co_CM_point ok_CM (fa hC 28 rfl) L_Law_20 im_CM_point se_CM_point (x_CM_point hl hC hx a1 a2) rfl ⟨le_b rfl, le_b rfl⟩ ⟨le_b rfl, le_b rfl⟩ (le_b rfl) cw_Law_point ?_ (fun _ _ h => h.elim) _ rfl
  rintro _ _ ⟨rfl, rfl⟩
  refine ⟨[], _, _, "java/lang/IndexOutOfBoundsException", 4, rfl, (fun z hz => nomatch hz), rfl, by decide, L_Law_13, n_castIOO, d_Law_point_13, by decide, ?_⟩
  show PW _ _ _ _ _ _ (15, [], [], (w.1 + 1, w.2))
  refine P_iconst (v := 1) d_Law_point_15 (by decide) ?_
  exact P_iret d_Law_point_16 rfl (le_b rfl) (le_b rfl) ⟨rfl, rfl⟩
theorem z_MD_point {G : pG} {w : pW} (hM : Has mfL w.2) (a1 a2 : Int32) : PM G M_MD_point 1 0 0 [.ref 467, .int a1, .int a2] w (fun r w' => r = some (.int 0) ∧ w' = (w.1, wu w.2 467 (.inr (9, mf1)))) := by
  refine PM_of pn_MD_point (le_b rfl) ?_
  show PW _ _ _ _ _ _ (0, [(0, .ref 467), (1, .int a1), (2, .int a2)], [], w)
  refine P_aload_n d_MD_point_0 rfl ?_
  refine P_iconst (v := 0) d_MD_point_1 (by decide) ?_
  refine P_putS (i := 0) d_MD_point_2 ok_Model (by decide) rfl L_MD_74 (fa hM 18 rfl) (fun _ => rfl) (fun _ => rfl) rfl ?_
  refine P_aload_n d_MD_point_5 rfl ?_
  refine P_iload_n d_MD_point_6 rfl ?_
  refine P_callV (M := M_MD_point) (pc := 7) (as := [.int a1]) (b := 467) d_MD_point_7 co_MD_isPoint ok_Model (fa hM 18 rfl) L_MD_247 im_MD_isPoint se_MD_isPoint (z_MD_isPoint hM a1) rfl ⟨by decide, by decide⟩ ⟨by decide, by decide⟩ (by decide) ?_ _ rfl
  rintro _ _ ⟨rfl, rfl⟩
  show PW _ _ _ _ _ _ (10, _, [.int 0], _)
  refine P_if_ne 20 d_MD_point_10 (by decide) (fun h => absurd (by decide) h) (fun _ => ?_)
  refine P_aload_n d_MD_point_13 rfl ?_
  refine P_iconst (v := 1) d_MD_point_14 (by decide) ?_
  refine P_put (i := 0) d_MD_point_15 ok_Model (by decide) rfl L_MD_74 (fa hM 18 rfl) (fun _ => rfl) (fun _ => rfl) ?_
  refine P_iconst (v := 0) d_MD_point_18 (by decide) ?_
  exact P_iret d_MD_point_19 rfl (le_b rfl) (le_b rfl) ⟨rfl, rfl⟩
theorem z_MD_thrown {G : pG} {w : pW} {fs : List Value} (t : Int32) (h : w.2 467 = .inr (9, fs)) (ht : fs[0]? = some (.int t)) : PM G M_MD_thrown 0 0 0 [.ref 467] w (fun r w' => r = some (.int t) ∧ w' = w) := by
  refine PM_of pn_MD_thrown (le_b rfl) ?_
  show PW _ _ _ _ _ _ (0, [(0, .ref 467)], [], w)
  refine P_aload_n d_MD_thrown_0 rfl ?_
  refine P_getf (i := 0) d_MD_thrown_1 ok_Model (by decide) L_MD_74 h ht ?_
  exact P_iret d_MD_thrown_4 rfl (le_b rfl) (le_b rfl) ⟨rfl, rfl⟩
