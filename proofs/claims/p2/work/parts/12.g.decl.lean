/-! declarations and decodings of methods (by program) -/
def M_MD_size : pM := (⟨"CornerMapsModel", "size", "(I)I"⟩, prog_12_method_158_code, 2, some .int)
theorem co_MD_size : CalOK M_MD_size 1 := ⟨g_at 2263 (by decide +kernel) rfl, g_at 13 (by decide +kernel) rfl, by decide +kernel, by decide +kernel, by decide +kernel⟩
theorem pn_MD_size : plainName M_MD_size.1.cls = true := by decide +kernel
def M_MD_count : pM := (⟨"CornerMapsModel", "count", "(I)I"⟩, prog_12_method_161_code, 2, some .int)
theorem co_MD_count : CalOK M_MD_count 1 := ⟨g_at 2267 (by decide +kernel) rfl, g_at 13 (by decide +kernel) rfl, by decide +kernel, by decide +kernel, by decide +kernel⟩
theorem pn_MD_count : plainName M_MD_count.1.cls = true := by decide +kernel
def M_MD_finite : pM := (⟨"CornerMapsModel", "finite", "()I"⟩, prog_12_method_160_code, 3, some .int)
theorem co_MD_finite : CalOK M_MD_finite 0 := ⟨g_at 2271 (by decide +kernel) rfl, g_at 13 (by decide +kernel) rfl, by decide +kernel, by decide +kernel, by decide +kernel⟩
theorem pn_MD_finite : plainName M_MD_finite.1.cls = true := by decide +kernel
theorem im_MD_finite : Cond.instanceMethod M_MD_finite.1 ∈ gtbl := g_at 2270 (by decide +kernel) rfl
theorem se_MD_finite : Cond.selects M_MD_finite.1.cls M_MD_finite.1 M_MD_finite.1 ∈ gtbl := g_sel 115 (by decide +kernel) rfl
theorem L_MD_483 : Cond.methodLink "CornerMapsModel" 483 ⟨"CornerMapsModel", "finite", "()I"⟩ ∈ gtbl := g_at 2268 (by decide +kernel) rfl
theorem L_Integer_265 : Cond.constant "java/lang/Integer" 265 (1431655765 : Int32) ∈ gtbl := g_at 518 (by decide +kernel) rfl
theorem L_Integer_266 : Cond.constant "java/lang/Integer" 266 (858993459 : Int32) ∈ gtbl := g_at 519 (by decide +kernel) rfl
theorem L_Integer_267 : Cond.constant "java/lang/Integer" 267 (252645135 : Int32) ∈ gtbl := g_at 520 (by decide +kernel) rfl
theorem F_MD_size_0 : Jvm.Free.DS.Facts prog_12_method_158_code 0 [(.aload_n 0, 1), (.iconst 0, 1), (.putfield 74, 3), (.aload_n 0, 1), (.iload_n 1, 1), (.invokevirtual 241, 3), (.ifCond .eq (11), 3), (.aload_n 0, 1), (.iload_n 1, 1), (.invokevirtual 464, 3), (.goto (4), 3), (.iconst (-1), 1), (.ireturn, 1)] := Jvm.Free.DS.facts 0 _ (by decide +kernel) (by decide +kernel)
theorem d_MD_size_0 : decode prog_12_method_158_code 0 = .ok (.aload_n 0, 1) := F_MD_size_0.1
theorem d_MD_size_1 : decode prog_12_method_158_code 1 = .ok (.iconst 0, 1) := F_MD_size_0.2.1
theorem d_MD_size_2 : decode prog_12_method_158_code 2 = .ok (.putfield 74, 3) := F_MD_size_0.2.2.1
theorem d_MD_size_5 : decode prog_12_method_158_code 5 = .ok (.aload_n 0, 1) := F_MD_size_0.2.2.2.1
theorem d_MD_size_6 : decode prog_12_method_158_code 6 = .ok (.iload_n 1, 1) := F_MD_size_0.2.2.2.2.1
theorem d_MD_size_7 : decode prog_12_method_158_code 7 = .ok (.invokevirtual 241, 3) := F_MD_size_0.2.2.2.2.2.1
theorem d_MD_size_10 : decode prog_12_method_158_code 10 = .ok (.ifCond .eq (11), 3) := F_MD_size_0.2.2.2.2.2.2.1
theorem d_MD_size_13 : decode prog_12_method_158_code 13 = .ok (.aload_n 0, 1) := F_MD_size_0.2.2.2.2.2.2.2.1
theorem d_MD_size_14 : decode prog_12_method_158_code 14 = .ok (.iload_n 1, 1) := F_MD_size_0.2.2.2.2.2.2.2.2.1
theorem d_MD_size_15 : decode prog_12_method_158_code 15 = .ok (.invokevirtual 464, 3) := F_MD_size_0.2.2.2.2.2.2.2.2.2.1
theorem d_MD_size_18 : decode prog_12_method_158_code 18 = .ok (.goto (4), 3) := F_MD_size_0.2.2.2.2.2.2.2.2.2.2.1
theorem d_MD_size_21 : decode prog_12_method_158_code 21 = .ok (.iconst (-1), 1) := F_MD_size_0.2.2.2.2.2.2.2.2.2.2.2.1
theorem d_MD_size_22 : decode prog_12_method_158_code 22 = .ok (.ireturn, 1) := F_MD_size_0.2.2.2.2.2.2.2.2.2.2.2.2.1
theorem F_MD_count_0 : Jvm.Free.DS.Facts prog_12_method_161_code 0 [(.aload_n 0, 1), (.iconst 0, 1), (.putfield 74, 3), (.iload_n 1, 1)] := Jvm.Free.DS.facts 0 _ (by decide +kernel) (by decide +kernel)
theorem d_MD_count_0 : decode prog_12_method_161_code 0 = .ok (.aload_n 0, 1) := F_MD_count_0.1
theorem d_MD_count_1 : decode prog_12_method_161_code 1 = .ok (.iconst 0, 1) := F_MD_count_0.2.1
theorem d_MD_count_2 : decode prog_12_method_161_code 2 = .ok (.putfield 74, 3) := F_MD_count_0.2.2.1
theorem d_MD_count_5 : decode prog_12_method_161_code 5 = .ok (.iload_n 1, 1) := F_MD_count_0.2.2.2.1
theorem F_MD_count_48 : Jvm.Free.DS.Facts prog_12_method_161_code 48 [(.aload_n 0, 1), (.getfield 207, 3), (.ireturn, 1), (.aload_n 0, 1), (.getfield 204, 3), (.ireturn, 1), (.aload_n 0, 1), (.getfield 21, 3), (.sipush (168), 3), (.laload, 1), (.l2i, 1), (.ireturn, 1), (.aload_n 0, 1), (.getfield 21, 3), (.sipush (169), 3), (.laload, 1), (.l2i, 1), (.ireturn, 1), (.aload_n 0, 1), (.invokevirtual 483, 3), (.ireturn, 1), (.aload_n 0, 1), (.getfield 71, 3), (.ireturn, 1), (.aload_n 0, 1), (.getfield 77, 3), (.ireturn, 1), (.iconst (-1), 1), (.ireturn, 1)] := Jvm.Free.DS.facts 48 _ (by decide +kernel) (by decide +kernel)
theorem d_MD_count_48 : decode prog_12_method_161_code 48 = .ok (.aload_n 0, 1) := F_MD_count_48.1
theorem d_MD_count_49 : decode prog_12_method_161_code 49 = .ok (.getfield 207, 3) := F_MD_count_48.2.1
theorem d_MD_count_52 : decode prog_12_method_161_code 52 = .ok (.ireturn, 1) := F_MD_count_48.2.2.1
theorem d_MD_count_53 : decode prog_12_method_161_code 53 = .ok (.aload_n 0, 1) := F_MD_count_48.2.2.2.1
theorem d_MD_count_54 : decode prog_12_method_161_code 54 = .ok (.getfield 204, 3) := F_MD_count_48.2.2.2.2.1
theorem d_MD_count_57 : decode prog_12_method_161_code 57 = .ok (.ireturn, 1) := F_MD_count_48.2.2.2.2.2.1
theorem d_MD_count_58 : decode prog_12_method_161_code 58 = .ok (.aload_n 0, 1) := F_MD_count_48.2.2.2.2.2.2.1
theorem d_MD_count_59 : decode prog_12_method_161_code 59 = .ok (.getfield 21, 3) := F_MD_count_48.2.2.2.2.2.2.2.1
theorem d_MD_count_62 : decode prog_12_method_161_code 62 = .ok (.sipush (168), 3) := F_MD_count_48.2.2.2.2.2.2.2.2.1
theorem d_MD_count_65 : decode prog_12_method_161_code 65 = .ok (.laload, 1) := F_MD_count_48.2.2.2.2.2.2.2.2.2.1
theorem d_MD_count_66 : decode prog_12_method_161_code 66 = .ok (.l2i, 1) := F_MD_count_48.2.2.2.2.2.2.2.2.2.2.1
theorem d_MD_count_67 : decode prog_12_method_161_code 67 = .ok (.ireturn, 1) := F_MD_count_48.2.2.2.2.2.2.2.2.2.2.2.1
theorem d_MD_count_68 : decode prog_12_method_161_code 68 = .ok (.aload_n 0, 1) := F_MD_count_48.2.2.2.2.2.2.2.2.2.2.2.2.1
theorem d_MD_count_69 : decode prog_12_method_161_code 69 = .ok (.getfield 21, 3) := F_MD_count_48.2.2.2.2.2.2.2.2.2.2.2.2.2.1
theorem d_MD_count_72 : decode prog_12_method_161_code 72 = .ok (.sipush (169), 3) := F_MD_count_48.2.2.2.2.2.2.2.2.2.2.2.2.2.2.1
theorem d_MD_count_75 : decode prog_12_method_161_code 75 = .ok (.laload, 1) := F_MD_count_48.2.2.2.2.2.2.2.2.2.2.2.2.2.2.2.1
theorem d_MD_count_76 : decode prog_12_method_161_code 76 = .ok (.l2i, 1) := F_MD_count_48.2.2.2.2.2.2.2.2.2.2.2.2.2.2.2.2.1
theorem d_MD_count_77 : decode prog_12_method_161_code 77 = .ok (.ireturn, 1) := F_MD_count_48.2.2.2.2.2.2.2.2.2.2.2.2.2.2.2.2.2.1
theorem d_MD_count_78 : decode prog_12_method_161_code 78 = .ok (.aload_n 0, 1) := F_MD_count_48.2.2.2.2.2.2.2.2.2.2.2.2.2.2.2.2.2.2.1
theorem d_MD_count_79 : decode prog_12_method_161_code 79 = .ok (.invokevirtual 483, 3) := F_MD_count_48.2.2.2.2.2.2.2.2.2.2.2.2.2.2.2.2.2.2.2.1
theorem d_MD_count_82 : decode prog_12_method_161_code 82 = .ok (.ireturn, 1) := F_MD_count_48.2.2.2.2.2.2.2.2.2.2.2.2.2.2.2.2.2.2.2.2.1
theorem d_MD_count_83 : decode prog_12_method_161_code 83 = .ok (.aload_n 0, 1) := F_MD_count_48.2.2.2.2.2.2.2.2.2.2.2.2.2.2.2.2.2.2.2.2.2.1
theorem d_MD_count_84 : decode prog_12_method_161_code 84 = .ok (.getfield 71, 3) := F_MD_count_48.2.2.2.2.2.2.2.2.2.2.2.2.2.2.2.2.2.2.2.2.2.2.1
theorem d_MD_count_87 : decode prog_12_method_161_code 87 = .ok (.ireturn, 1) := F_MD_count_48.2.2.2.2.2.2.2.2.2.2.2.2.2.2.2.2.2.2.2.2.2.2.2.1
theorem d_MD_count_88 : decode prog_12_method_161_code 88 = .ok (.aload_n 0, 1) := F_MD_count_48.2.2.2.2.2.2.2.2.2.2.2.2.2.2.2.2.2.2.2.2.2.2.2.2.1
theorem d_MD_count_89 : decode prog_12_method_161_code 89 = .ok (.getfield 77, 3) := F_MD_count_48.2.2.2.2.2.2.2.2.2.2.2.2.2.2.2.2.2.2.2.2.2.2.2.2.2.1
theorem d_MD_count_92 : decode prog_12_method_161_code 92 = .ok (.ireturn, 1) := F_MD_count_48.2.2.2.2.2.2.2.2.2.2.2.2.2.2.2.2.2.2.2.2.2.2.2.2.2.2.1
theorem d_MD_count_93 : decode prog_12_method_161_code 93 = .ok (.iconst (-1), 1) := F_MD_count_48.2.2.2.2.2.2.2.2.2.2.2.2.2.2.2.2.2.2.2.2.2.2.2.2.2.2.2.1
theorem d_MD_count_94 : decode prog_12_method_161_code 94 = .ok (.ireturn, 1) := F_MD_count_48.2.2.2.2.2.2.2.2.2.2.2.2.2.2.2.2.2.2.2.2.2.2.2.2.2.2.2.2.1
theorem F_MD_finite_0 : Jvm.Free.DS.Facts prog_12_method_160_code 0 [(.iconst 0, 1), (.istore_n 1, 1), (.iconst 0, 1), (.istore_n 2, 1), (.iload_n 2, 1), (.i2l, 1), (.aload_n 0, 1), (.getfield 21, 3), (.sipush (169), 3), (.laload, 1), (.lcmp, 1), (.ifCond .ge (28), 3), (.iload_n 1, 1), (.aload_n 0, 1), (.iload_n 2, 1), (.iconst 2, 1), (.invokevirtual 250, 3), (.lconst 0, 1), (.lcmp, 1), (.ifCond .eq (7), 3), (.iconst 1, 1), (.goto (4), 3), (.iconst 0, 1), (.iadd, 1), (.istore_n 1, 1), (.iinc 2 (1), 3), (.goto (-36), 3), (.iload_n 1, 1), (.ireturn, 1)] := Jvm.Free.DS.facts 0 _ (by decide +kernel) (by decide +kernel)
theorem d_MD_finite_0 : decode prog_12_method_160_code 0 = .ok (.iconst 0, 1) := F_MD_finite_0.1
theorem d_MD_finite_1 : decode prog_12_method_160_code 1 = .ok (.istore_n 1, 1) := F_MD_finite_0.2.1
theorem d_MD_finite_2 : decode prog_12_method_160_code 2 = .ok (.iconst 0, 1) := F_MD_finite_0.2.2.1
theorem d_MD_finite_3 : decode prog_12_method_160_code 3 = .ok (.istore_n 2, 1) := F_MD_finite_0.2.2.2.1
theorem d_MD_finite_4 : decode prog_12_method_160_code 4 = .ok (.iload_n 2, 1) := F_MD_finite_0.2.2.2.2.1
theorem d_MD_finite_5 : decode prog_12_method_160_code 5 = .ok (.i2l, 1) := F_MD_finite_0.2.2.2.2.2.1
theorem d_MD_finite_6 : decode prog_12_method_160_code 6 = .ok (.aload_n 0, 1) := F_MD_finite_0.2.2.2.2.2.2.1
theorem d_MD_finite_7 : decode prog_12_method_160_code 7 = .ok (.getfield 21, 3) := F_MD_finite_0.2.2.2.2.2.2.2.1
theorem d_MD_finite_10 : decode prog_12_method_160_code 10 = .ok (.sipush (169), 3) := F_MD_finite_0.2.2.2.2.2.2.2.2.1
theorem d_MD_finite_13 : decode prog_12_method_160_code 13 = .ok (.laload, 1) := F_MD_finite_0.2.2.2.2.2.2.2.2.2.1
theorem d_MD_finite_14 : decode prog_12_method_160_code 14 = .ok (.lcmp, 1) := F_MD_finite_0.2.2.2.2.2.2.2.2.2.2.1
theorem d_MD_finite_15 : decode prog_12_method_160_code 15 = .ok (.ifCond .ge (28), 3) := F_MD_finite_0.2.2.2.2.2.2.2.2.2.2.2.1
theorem d_MD_finite_18 : decode prog_12_method_160_code 18 = .ok (.iload_n 1, 1) := F_MD_finite_0.2.2.2.2.2.2.2.2.2.2.2.2.1
theorem d_MD_finite_19 : decode prog_12_method_160_code 19 = .ok (.aload_n 0, 1) := F_MD_finite_0.2.2.2.2.2.2.2.2.2.2.2.2.2.1
theorem d_MD_finite_20 : decode prog_12_method_160_code 20 = .ok (.iload_n 2, 1) := F_MD_finite_0.2.2.2.2.2.2.2.2.2.2.2.2.2.2.1
theorem d_MD_finite_21 : decode prog_12_method_160_code 21 = .ok (.iconst 2, 1) := F_MD_finite_0.2.2.2.2.2.2.2.2.2.2.2.2.2.2.2.1
theorem d_MD_finite_22 : decode prog_12_method_160_code 22 = .ok (.invokevirtual 250, 3) := F_MD_finite_0.2.2.2.2.2.2.2.2.2.2.2.2.2.2.2.2.1
theorem d_MD_finite_25 : decode prog_12_method_160_code 25 = .ok (.lconst 0, 1) := F_MD_finite_0.2.2.2.2.2.2.2.2.2.2.2.2.2.2.2.2.2.1
theorem d_MD_finite_26 : decode prog_12_method_160_code 26 = .ok (.lcmp, 1) := F_MD_finite_0.2.2.2.2.2.2.2.2.2.2.2.2.2.2.2.2.2.2.1
theorem d_MD_finite_27 : decode prog_12_method_160_code 27 = .ok (.ifCond .eq (7), 3) := F_MD_finite_0.2.2.2.2.2.2.2.2.2.2.2.2.2.2.2.2.2.2.2.1
theorem d_MD_finite_30 : decode prog_12_method_160_code 30 = .ok (.iconst 1, 1) := F_MD_finite_0.2.2.2.2.2.2.2.2.2.2.2.2.2.2.2.2.2.2.2.2.1
theorem d_MD_finite_31 : decode prog_12_method_160_code 31 = .ok (.goto (4), 3) := F_MD_finite_0.2.2.2.2.2.2.2.2.2.2.2.2.2.2.2.2.2.2.2.2.2.1
theorem d_MD_finite_34 : decode prog_12_method_160_code 34 = .ok (.iconst 0, 1) := F_MD_finite_0.2.2.2.2.2.2.2.2.2.2.2.2.2.2.2.2.2.2.2.2.2.2.1
theorem d_MD_finite_35 : decode prog_12_method_160_code 35 = .ok (.iadd, 1) := F_MD_finite_0.2.2.2.2.2.2.2.2.2.2.2.2.2.2.2.2.2.2.2.2.2.2.2.1
theorem d_MD_finite_36 : decode prog_12_method_160_code 36 = .ok (.istore_n 1, 1) := F_MD_finite_0.2.2.2.2.2.2.2.2.2.2.2.2.2.2.2.2.2.2.2.2.2.2.2.2.1
theorem d_MD_finite_37 : decode prog_12_method_160_code 37 = .ok (.iinc 2 (1), 3) := F_MD_finite_0.2.2.2.2.2.2.2.2.2.2.2.2.2.2.2.2.2.2.2.2.2.2.2.2.2.1
theorem d_MD_finite_40 : decode prog_12_method_160_code 40 = .ok (.goto (-36), 3) := F_MD_finite_0.2.2.2.2.2.2.2.2.2.2.2.2.2.2.2.2.2.2.2.2.2.2.2.2.2.2.1
theorem d_MD_finite_43 : decode prog_12_method_160_code 43 = .ok (.iload_n 1, 1) := F_MD_finite_0.2.2.2.2.2.2.2.2.2.2.2.2.2.2.2.2.2.2.2.2.2.2.2.2.2.2.2.1
theorem d_MD_finite_44 : decode prog_12_method_160_code 44 = .ok (.ireturn, 1) := F_MD_finite_0.2.2.2.2.2.2.2.2.2.2.2.2.2.2.2.2.2.2.2.2.2.2.2.2.2.2.2.2.1
theorem F_Integer_bitCount_0 : Jvm.Free.DS.Facts prog_22_method_49_code 0 [(.iload_n 0, 1), (.iload_n 0, 1), (.iconst 1, 1), (.iushr, 1), (.ldc_w 265, 3), (.iand, 1), (.isub, 1), (.istore_n 0, 1), (.iload_n 0, 1), (.ldc_w 266, 3), (.iand, 1), (.iload_n 0, 1), (.iconst 2, 1), (.iushr, 1), (.ldc_w 266, 3), (.iand, 1), (.iadd, 1), (.istore_n 0, 1), (.iload_n 0, 1), (.iload_n 0, 1), (.iconst 4, 1), (.iushr, 1), (.iadd, 1), (.ldc_w 267, 3), (.iand, 1), (.istore_n 0, 1), (.iload_n 0, 1), (.iload_n 0, 1), (.bipush (8), 2), (.iushr, 1), (.iadd, 1), (.istore_n 0, 1)] := Jvm.Free.DS.facts 0 _ (by decide +kernel) (by decide +kernel)
theorem d_Integer_bitCount_0 : decode prog_22_method_49_code 0 = .ok (.iload_n 0, 1) := F_Integer_bitCount_0.1
theorem d_Integer_bitCount_1 : decode prog_22_method_49_code 1 = .ok (.iload_n 0, 1) := F_Integer_bitCount_0.2.1
theorem d_Integer_bitCount_2 : decode prog_22_method_49_code 2 = .ok (.iconst 1, 1) := F_Integer_bitCount_0.2.2.1
theorem d_Integer_bitCount_3 : decode prog_22_method_49_code 3 = .ok (.iushr, 1) := F_Integer_bitCount_0.2.2.2.1
theorem d_Integer_bitCount_4 : decode prog_22_method_49_code 4 = .ok (.ldc_w 265, 3) := F_Integer_bitCount_0.2.2.2.2.1
theorem d_Integer_bitCount_7 : decode prog_22_method_49_code 7 = .ok (.iand, 1) := F_Integer_bitCount_0.2.2.2.2.2.1
theorem d_Integer_bitCount_8 : decode prog_22_method_49_code 8 = .ok (.isub, 1) := F_Integer_bitCount_0.2.2.2.2.2.2.1
theorem d_Integer_bitCount_9 : decode prog_22_method_49_code 9 = .ok (.istore_n 0, 1) := F_Integer_bitCount_0.2.2.2.2.2.2.2.1
theorem d_Integer_bitCount_10 : decode prog_22_method_49_code 10 = .ok (.iload_n 0, 1) := F_Integer_bitCount_0.2.2.2.2.2.2.2.2.1
theorem d_Integer_bitCount_11 : decode prog_22_method_49_code 11 = .ok (.ldc_w 266, 3) := F_Integer_bitCount_0.2.2.2.2.2.2.2.2.2.1
theorem d_Integer_bitCount_14 : decode prog_22_method_49_code 14 = .ok (.iand, 1) := F_Integer_bitCount_0.2.2.2.2.2.2.2.2.2.2.1
theorem d_Integer_bitCount_15 : decode prog_22_method_49_code 15 = .ok (.iload_n 0, 1) := F_Integer_bitCount_0.2.2.2.2.2.2.2.2.2.2.2.1
theorem d_Integer_bitCount_16 : decode prog_22_method_49_code 16 = .ok (.iconst 2, 1) := F_Integer_bitCount_0.2.2.2.2.2.2.2.2.2.2.2.2.1
theorem d_Integer_bitCount_17 : decode prog_22_method_49_code 17 = .ok (.iushr, 1) := F_Integer_bitCount_0.2.2.2.2.2.2.2.2.2.2.2.2.2.1
theorem d_Integer_bitCount_18 : decode prog_22_method_49_code 18 = .ok (.ldc_w 266, 3) := F_Integer_bitCount_0.2.2.2.2.2.2.2.2.2.2.2.2.2.2.1
theorem d_Integer_bitCount_21 : decode prog_22_method_49_code 21 = .ok (.iand, 1) := F_Integer_bitCount_0.2.2.2.2.2.2.2.2.2.2.2.2.2.2.2.1
theorem d_Integer_bitCount_22 : decode prog_22_method_49_code 22 = .ok (.iadd, 1) := F_Integer_bitCount_0.2.2.2.2.2.2.2.2.2.2.2.2.2.2.2.2.1
theorem d_Integer_bitCount_23 : decode prog_22_method_49_code 23 = .ok (.istore_n 0, 1) := F_Integer_bitCount_0.2.2.2.2.2.2.2.2.2.2.2.2.2.2.2.2.2.1
theorem d_Integer_bitCount_24 : decode prog_22_method_49_code 24 = .ok (.iload_n 0, 1) := F_Integer_bitCount_0.2.2.2.2.2.2.2.2.2.2.2.2.2.2.2.2.2.2.1
theorem d_Integer_bitCount_25 : decode prog_22_method_49_code 25 = .ok (.iload_n 0, 1) := F_Integer_bitCount_0.2.2.2.2.2.2.2.2.2.2.2.2.2.2.2.2.2.2.2.1
theorem d_Integer_bitCount_26 : decode prog_22_method_49_code 26 = .ok (.iconst 4, 1) := F_Integer_bitCount_0.2.2.2.2.2.2.2.2.2.2.2.2.2.2.2.2.2.2.2.2.1
theorem d_Integer_bitCount_27 : decode prog_22_method_49_code 27 = .ok (.iushr, 1) := F_Integer_bitCount_0.2.2.2.2.2.2.2.2.2.2.2.2.2.2.2.2.2.2.2.2.2.1
theorem d_Integer_bitCount_28 : decode prog_22_method_49_code 28 = .ok (.iadd, 1) := F_Integer_bitCount_0.2.2.2.2.2.2.2.2.2.2.2.2.2.2.2.2.2.2.2.2.2.2.1
theorem d_Integer_bitCount_29 : decode prog_22_method_49_code 29 = .ok (.ldc_w 267, 3) := F_Integer_bitCount_0.2.2.2.2.2.2.2.2.2.2.2.2.2.2.2.2.2.2.2.2.2.2.2.1
theorem d_Integer_bitCount_32 : decode prog_22_method_49_code 32 = .ok (.iand, 1) := F_Integer_bitCount_0.2.2.2.2.2.2.2.2.2.2.2.2.2.2.2.2.2.2.2.2.2.2.2.2.1
theorem d_Integer_bitCount_33 : decode prog_22_method_49_code 33 = .ok (.istore_n 0, 1) := F_Integer_bitCount_0.2.2.2.2.2.2.2.2.2.2.2.2.2.2.2.2.2.2.2.2.2.2.2.2.2.1
theorem d_Integer_bitCount_34 : decode prog_22_method_49_code 34 = .ok (.iload_n 0, 1) := F_Integer_bitCount_0.2.2.2.2.2.2.2.2.2.2.2.2.2.2.2.2.2.2.2.2.2.2.2.2.2.2.1
theorem d_Integer_bitCount_35 : decode prog_22_method_49_code 35 = .ok (.iload_n 0, 1) := F_Integer_bitCount_0.2.2.2.2.2.2.2.2.2.2.2.2.2.2.2.2.2.2.2.2.2.2.2.2.2.2.2.1
theorem d_Integer_bitCount_36 : decode prog_22_method_49_code 36 = .ok (.bipush (8), 2) := F_Integer_bitCount_0.2.2.2.2.2.2.2.2.2.2.2.2.2.2.2.2.2.2.2.2.2.2.2.2.2.2.2.2.1
theorem d_Integer_bitCount_38 : decode prog_22_method_49_code 38 = .ok (.iushr, 1) := F_Integer_bitCount_0.2.2.2.2.2.2.2.2.2.2.2.2.2.2.2.2.2.2.2.2.2.2.2.2.2.2.2.2.2.1
theorem d_Integer_bitCount_39 : decode prog_22_method_49_code 39 = .ok (.iadd, 1) := F_Integer_bitCount_0.2.2.2.2.2.2.2.2.2.2.2.2.2.2.2.2.2.2.2.2.2.2.2.2.2.2.2.2.2.2.1
theorem d_Integer_bitCount_40 : decode prog_22_method_49_code 40 = .ok (.istore_n 0, 1) := F_Integer_bitCount_0.2.2.2.2.2.2.2.2.2.2.2.2.2.2.2.2.2.2.2.2.2.2.2.2.2.2.2.2.2.2.2.1
theorem F_Integer_bitCount_41 : Jvm.Free.DS.Facts prog_22_method_49_code 41 [(.iload_n 0, 1), (.iload_n 0, 1), (.bipush (16), 2), (.iushr, 1), (.iadd, 1), (.istore_n 0, 1), (.iload_n 0, 1), (.bipush (63), 2), (.iand, 1), (.ireturn, 1)] := Jvm.Free.DS.facts 41 _ (by decide +kernel) (by decide +kernel)
theorem d_Integer_bitCount_41 : decode prog_22_method_49_code 41 = .ok (.iload_n 0, 1) := F_Integer_bitCount_41.1
theorem d_Integer_bitCount_42 : decode prog_22_method_49_code 42 = .ok (.iload_n 0, 1) := F_Integer_bitCount_41.2.1
theorem d_Integer_bitCount_43 : decode prog_22_method_49_code 43 = .ok (.bipush (16), 2) := F_Integer_bitCount_41.2.2.1
theorem d_Integer_bitCount_45 : decode prog_22_method_49_code 45 = .ok (.iushr, 1) := F_Integer_bitCount_41.2.2.2.1
theorem d_Integer_bitCount_46 : decode prog_22_method_49_code 46 = .ok (.iadd, 1) := F_Integer_bitCount_41.2.2.2.2.1
theorem d_Integer_bitCount_47 : decode prog_22_method_49_code 47 = .ok (.istore_n 0, 1) := F_Integer_bitCount_41.2.2.2.2.2.1
theorem d_Integer_bitCount_48 : decode prog_22_method_49_code 48 = .ok (.iload_n 0, 1) := F_Integer_bitCount_41.2.2.2.2.2.2.1
theorem d_Integer_bitCount_49 : decode prog_22_method_49_code 49 = .ok (.bipush (63), 2) := F_Integer_bitCount_41.2.2.2.2.2.2.2.1
theorem d_Integer_bitCount_51 : decode prog_22_method_49_code 51 = .ok (.iand, 1) := F_Integer_bitCount_41.2.2.2.2.2.2.2.2.1
theorem d_Integer_bitCount_52 : decode prog_22_method_49_code 52 = .ok (.ireturn, 1) := F_Integer_bitCount_41.2.2.2.2.2.2.2.2.2.1
theorem F_Long_signum_0 : Jvm.Free.DS.Facts prog_23_method_57_code 0 [(.lload_n 0, 1), (.bipush (63), 2), (.lshr, 1), (.lload_n 0, 1), (.lneg, 1), (.bipush (63), 2), (.lushr, 1), (.lor, 1), (.l2i, 1), (.ireturn, 1)] := Jvm.Free.DS.facts 0 _ (by decide +kernel) (by decide +kernel)
theorem d_Long_signum_0 : decode prog_23_method_57_code 0 = .ok (.lload_n 0, 1) := F_Long_signum_0.1
theorem d_Long_signum_1 : decode prog_23_method_57_code 1 = .ok (.bipush (63), 2) := F_Long_signum_0.2.1
theorem d_Long_signum_3 : decode prog_23_method_57_code 3 = .ok (.lshr, 1) := F_Long_signum_0.2.2.1
theorem d_Long_signum_4 : decode prog_23_method_57_code 4 = .ok (.lload_n 0, 1) := F_Long_signum_0.2.2.2.1
theorem d_Long_signum_5 : decode prog_23_method_57_code 5 = .ok (.lneg, 1) := F_Long_signum_0.2.2.2.2.1
theorem d_Long_signum_6 : decode prog_23_method_57_code 6 = .ok (.bipush (63), 2) := F_Long_signum_0.2.2.2.2.2.1
theorem d_Long_signum_8 : decode prog_23_method_57_code 8 = .ok (.lushr, 1) := F_Long_signum_0.2.2.2.2.2.2.1
theorem d_Long_signum_9 : decode prog_23_method_57_code 9 = .ok (.lor, 1) := F_Long_signum_0.2.2.2.2.2.2.2.1
theorem d_Long_signum_10 : decode prog_23_method_57_code 10 = .ok (.l2i, 1) := F_Long_signum_0.2.2.2.2.2.2.2.2.1
theorem d_Long_signum_11 : decode prog_23_method_57_code 11 = .ok (.ireturn, 1) := F_Long_signum_0.2.2.2.2.2.2.2.2.2.1
