/-! calls that answer by their argument, on new objects (by program) -/
def ff (lo hi v u a : Int32) : Int32 := if lo ≤ a ∧ a ≤ hi then v else u
theorem ff_in {lo hi v u a : Int32} (h : lo ≤ a ∧ a ≤ hi) : ff lo hi v u a = v := if_pos h
theorem ff_out {lo hi v u a : Int32} (h : ¬ (lo ≤ a ∧ a ≤ hi)) : ff lo hi v u a = u := if_neg h
theorem i_outT {a : Int32} (ho : ¬ (0 ≤ a ∧ a ≤ 6)) : a.toInt < 0 ∨ 6 < a.toInt := by
  simp only [Int32.le_iff_toInt_le, Int32.reduceToInt] at ho
  omega
theorem i_in00 {a : Int32} (h : 0 ≤ a ∧ a ≤ 0) : a = 0 := by
  simp only [Int32.le_iff_toInt_le, Int32.reduceToInt] at h
  simp only [← Int32.toInt_inj, Int32.reduceToInt]
  omega
theorem i_in01 {a : Int32} (h : 0 ≤ a ∧ a ≤ 1) : a = 0 ∨ a = 1 := by
  simp only [Int32.le_iff_toInt_le, Int32.reduceToInt] at h
  simp only [← Int32.toInt_inj, Int32.reduceToInt]
  omega
theorem i_in02 {a : Int32} (h : 0 ≤ a ∧ a ≤ 2) : a = 0 ∨ a = 1 ∨ a = 2 := by
  simp only [Int32.le_iff_toInt_le, Int32.reduceToInt] at h
  simp only [← Int32.toInt_inj, Int32.reduceToInt]
  omega
theorem i_in05 {a : Int32} (h : 0 ≤ a ∧ a ≤ 5) : a = 0 ∨ a = 1 ∨ a = 2 ∨ a = 3 ∨ a = 4 ∨ a = 5 := by
  simp only [Int32.le_iff_toInt_le, Int32.reduceToInt] at h
  simp only [← Int32.toInt_inj, Int32.reduceToInt]
  omega
theorem i_in06 {a : Int32} (h : 0 ≤ a ∧ a ≤ 6) : a = 0 ∨ a = 1 ∨ a = 2 ∨ a = 3 ∨ a = 4 ∨ a = 5 ∨ a = 6 := by
  simp only [Int32.le_iff_toInt_le, Int32.reduceToInt] at h
  simp only [← Int32.toInt_inj, Int32.reduceToInt]
  omega
theorem i_in12 {a : Int32} (h : 1 ≤ a ∧ a ≤ 2) : a = 1 ∨ a = 2 := by
  simp only [Int32.le_iff_toInt_le, Int32.reduceToInt] at h
  simp only [← Int32.toInt_inj, Int32.reduceToInt]
  omega
section
variable {G : pG} {M : pM} {R : Room} {QF : List Frame → Array Value → State → State → Prop} {k n pc : Nat} {lv : List (Nat × Value)} {st : List Value} {w : pW}
theorem P_tswIn {dflt lo hi : Int} {offs : Array Int} {len : Nat} {x : Int32} {off : Int} (tgt : Nat) (d : decode M.2.1 pc = .ok (.tableswitch dflt lo hi offs, len)) (h1 : ¬ x.toInt < lo) (h2 : ¬ hi < x.toInt) (ho : offs[(x.toInt - lo).toNat]? = some off) (ht : (pc : Int) + off = (tgt : Int)) (kk : PW G M R QF k n (tgt, lv, st, w)) : PW G M R QF k n (pc, lv, .int x :: st, w) :=
  fun p e s m args below meth c hc H locs ls hl hH hS => lv_tableIn hc.1 hc.2.1 d h1 h2 ho ht (kk p e s m args below meth c hc H locs ls hl hH hS)
theorem P_tswOut {dflt lo hi : Int} {offs : Array Int} {len : Nat} {x : Int32} (tgt : Nat) (d : decode M.2.1 pc = .ok (.tableswitch dflt lo hi offs, len)) (h : x.toInt < lo ∨ hi < x.toInt) (ht : (pc : Int) + dflt = (tgt : Int)) (kk : PW G M R QF k n (tgt, lv, st, w)) : PW G M R QF k n (pc, lv, .int x :: st, w) :=
  fun p e s m args below meth c hc H locs ls hl hH hS => lv_tableOut hc.1 hc.2.1 d h ht (kk p e s m args below meth c hc H locs ls hl hH hS)
end
def M_Pairs_fill : pM := (⟨"CornerMaps$Pairs", "fill", "(LCornerMaps$Plane;)V"⟩, prog_4_method_2_code, 4, none)
theorem co_Pairs_fill : CalOK M_Pairs_fill 1 := ⟨g_at 937 (by decide +kernel) rfl, g_at 8 (by decide +kernel) rfl, by decide +kernel, by decide +kernel, by decide +kernel⟩
theorem pn_Pairs_fill : plainName M_Pairs_fill.1.cls = true := by decide +kernel
def M_Plane_finitePoints : pM := (⟨"CornerMaps$Plane", "finitePoints", "()I"⟩, prog_6_method_10_code, 3, some .int)
theorem co_Plane_finitePoints : CalOK M_Plane_finitePoints 0 := ⟨g_at 642 (by decide +kernel) rfl, g_at 2 (by decide +kernel) rfl, by decide +kernel, by decide +kernel, by decide +kernel⟩
theorem pn_Plane_finitePoints : plainName M_Plane_finitePoints.1.cls = true := by decide +kernel
def M_MD_finite : pM := (⟨"CornerMapsModel", "finite", "()I"⟩, prog_12_method_160_code, 3, some .int)
theorem co_MD_finite : CalOK M_MD_finite 0 := ⟨g_at 2275 (by decide +kernel) rfl, g_at 13 (by decide +kernel) rfl, by decide +kernel, by decide +kernel, by decide +kernel⟩
theorem pn_MD_finite : plainName M_MD_finite.1.cls = true := by decide +kernel
theorem sm_CM_isPart : Cond.static M_CM_isPart.1 ∈ gtbl := g_at 807 (by decide +kernel) rfl
theorem sm_CM_isKind : Cond.static M_CM_isKind.1 ∈ gtbl := g_at 916 (by decide +kernel) rfl
theorem sm_CM_isThird : Cond.static M_CM_isThird.1 ∈ gtbl := g_at 667 (by decide +kernel) rfl
theorem im_Pairs_fill : Cond.instanceMethod M_Pairs_fill.1 ∈ gtbl := g_at 935 (by decide +kernel) rfl
theorem se_Pairs_fill : Cond.selects M_Pairs_fill.1.cls M_Pairs_fill.1 M_Pairs_fill.1 ∈ gtbl := g_at 936 (by decide +kernel) rfl
theorem im_Plane_finitePoints : Cond.instanceMethod M_Plane_finitePoints.1 ∈ gtbl := g_at 640 (by decide +kernel) rfl
theorem se_Plane_finitePoints : Cond.selects M_Plane_finitePoints.1.cls M_Plane_finitePoints.1 M_Plane_finitePoints.1 ∈ gtbl := g_at 641 (by decide +kernel) rfl
theorem im_MD_finite : Cond.instanceMethod M_MD_finite.1 ∈ gtbl := g_at 2274 (by decide +kernel) rfl
theorem se_MD_finite : Cond.selects M_MD_finite.1.cls M_MD_finite.1 M_MD_finite.1 ∈ gtbl := g_sel 115 (by decide +kernel) rfl
theorem L_CM_136 : Cond.methodLink "CornerMaps" 136 ⟨"CornerMaps", "isPart", "(I)Z"⟩ ∈ gtbl := g_at 806 (by decide +kernel) rfl
theorem L_CM_385 : Cond.methodLink "CornerMaps" 385 ⟨"CornerMaps", "isKind", "(I)Z"⟩ ∈ gtbl := g_at 915 (by decide +kernel) rfl
theorem L_CM_154 : Cond.methodLink "CornerMaps" 154 ⟨"CornerMaps", "isThird", "(I)Z"⟩ ∈ gtbl := g_at 666 (by decide +kernel) rfl
theorem L_Pairs_16 : Cond.fieldLinkNest "CornerMaps$Pairs" 16 "CornerMaps$Plane" "mapCount" "I" "CornerMaps" ∈ ntbl := nt_at 79 (by decide +kernel) rfl
theorem L_Pairs_22 : Cond.fieldLink "CornerMaps$Pairs" 22 "CornerMaps$Pairs" "width" "I" ∈ gtbl := g_at 222 (by decide +kernel) rfl
theorem L_Pairs_25 : Cond.fieldLink "CornerMaps$Pairs" 25 "CornerMaps$Pairs" "count" "I" ∈ gtbl := g_at 223 (by decide +kernel) rfl
theorem L_CM_391 : Cond.methodLink "CornerMaps" 391 ⟨"CornerMaps$Pairs", "fill", "(LCornerMaps$Plane;)V"⟩ ∈ gtbl := g_at 934 (by decide +kernel) rfl
theorem L_CM_118 : Cond.fieldLinkNest "CornerMaps" 118 "CornerMaps$Plane" "lineCount" "I" "CornerMaps" ∈ ntbl := nt_at 75 (by decide +kernel) rfl
theorem L_CM_415 : Cond.fieldLinkNest "CornerMaps" 415 "CornerMaps$Plane" "quadCount" "I" "CornerMaps" ∈ ntbl := nt_at 78 (by decide +kernel) rfl
theorem L_CM_232 : Cond.fieldLinkNest "CornerMaps" 232 "CornerMaps$Plane" "pointCount" "I" "CornerMaps" ∈ ntbl := nt_at 87 (by decide +kernel) rfl
theorem L_CM_257 : Cond.methodLink "CornerMaps" 257 ⟨"CornerMaps$Plane", "finitePoints", "()I"⟩ ∈ gtbl := g_at 639 (by decide +kernel) rfl
theorem L_MD_207 : Cond.fieldLink "CornerMapsModel" 207 "CornerMapsModel" "lines" "I" ∈ gtbl := g_at 1508 (by decide +kernel) rfl
theorem L_MD_483 : Cond.methodLink "CornerMapsModel" 483 ⟨"CornerMapsModel", "finite", "()I"⟩ ∈ gtbl := g_at 2272 (by decide +kernel) rfl
theorem F_CM_biggest_4 : Jvm.Free.DS.Facts prog_1_method_66_code 4 [(.ifCond .ne (5), 3), (.iconst (-1), 1), (.ireturn, 1), (.bipush (-2), 2), (.istore_n 2, 1), (.lconst 0, 1), (.lstore_n 3, 1), (.iconst 0, 1), (.istore 5, 2), (.iload 5, 2), (.aload_n 0, 1), (.getfield 12, 3), (.getfield 225, 3), (.if_icmp .ge (56), 3)] := Jvm.Free.DS.facts 4 _ (by decide +kernel) (by decide +kernel)
theorem d_CM_biggest_4 : decode prog_1_method_66_code 4 = .ok (.ifCond .ne (5), 3) := F_CM_biggest_4.1
theorem d_CM_biggest_7 : decode prog_1_method_66_code 7 = .ok (.iconst (-1), 1) := F_CM_biggest_4.2.1
theorem d_CM_biggest_8 : decode prog_1_method_66_code 8 = .ok (.ireturn, 1) := F_CM_biggest_4.2.2.1
theorem d_CM_biggest_9 : decode prog_1_method_66_code 9 = .ok (.bipush (-2), 2) := F_CM_biggest_4.2.2.2.1
theorem d_CM_biggest_11 : decode prog_1_method_66_code 11 = .ok (.istore_n 2, 1) := F_CM_biggest_4.2.2.2.2.1
theorem d_CM_biggest_12 : decode prog_1_method_66_code 12 = .ok (.lconst 0, 1) := F_CM_biggest_4.2.2.2.2.2.1
theorem d_CM_biggest_13 : decode prog_1_method_66_code 13 = .ok (.lstore_n 3, 1) := F_CM_biggest_4.2.2.2.2.2.2.1
theorem d_CM_biggest_14 : decode prog_1_method_66_code 14 = .ok (.iconst 0, 1) := F_CM_biggest_4.2.2.2.2.2.2.2.1
theorem d_CM_biggest_15 : decode prog_1_method_66_code 15 = .ok (.istore 5, 2) := F_CM_biggest_4.2.2.2.2.2.2.2.2.1
theorem d_CM_biggest_17 : decode prog_1_method_66_code 17 = .ok (.iload 5, 2) := F_CM_biggest_4.2.2.2.2.2.2.2.2.2.1
theorem d_CM_biggest_19 : decode prog_1_method_66_code 19 = .ok (.aload_n 0, 1) := F_CM_biggest_4.2.2.2.2.2.2.2.2.2.2.1
theorem d_CM_biggest_20 : decode prog_1_method_66_code 20 = .ok (.getfield 12, 3) := F_CM_biggest_4.2.2.2.2.2.2.2.2.2.2.2.1
theorem d_CM_biggest_23 : decode prog_1_method_66_code 23 = .ok (.getfield 225, 3) := F_CM_biggest_4.2.2.2.2.2.2.2.2.2.2.2.2.1
theorem d_CM_biggest_26 : decode prog_1_method_66_code 26 = .ok (.if_icmp .ge (56), 3) := F_CM_biggest_4.2.2.2.2.2.2.2.2.2.2.2.2.2.1
theorem F_CM_biggest_82 : Jvm.Free.DS.Facts prog_1_method_66_code 82 [(.iload_n 2, 1), (.ireturn, 1)] := Jvm.Free.DS.facts 82 _ (by decide +kernel) (by decide +kernel)
theorem d_CM_biggest_82 : decode prog_1_method_66_code 82 = .ok (.iload_n 2, 1) := F_CM_biggest_82.1
theorem d_CM_biggest_83 : decode prog_1_method_66_code 83 = .ok (.ireturn, 1) := F_CM_biggest_82.2.1
theorem F_CM_kinds_4 : Jvm.Free.DS.Facts prog_1_method_67_code 4 [(.ifCond .ne (5), 3), (.iconst (-1), 1), (.ireturn, 1), (.iconst 0, 1), (.istore_n 2, 1), (.iconst 0, 1), (.istore_n 3, 1), (.iload_n 3, 1), (.aload_n 0, 1), (.getfield 12, 3), (.getfield 225, 3), (.if_icmp .ge (28), 3)] := Jvm.Free.DS.facts 4 _ (by decide +kernel) (by decide +kernel)
theorem d_CM_kinds_4 : decode prog_1_method_67_code 4 = .ok (.ifCond .ne (5), 3) := F_CM_kinds_4.1
theorem d_CM_kinds_7 : decode prog_1_method_67_code 7 = .ok (.iconst (-1), 1) := F_CM_kinds_4.2.1
theorem d_CM_kinds_8 : decode prog_1_method_67_code 8 = .ok (.ireturn, 1) := F_CM_kinds_4.2.2.1
theorem d_CM_kinds_9 : decode prog_1_method_67_code 9 = .ok (.iconst 0, 1) := F_CM_kinds_4.2.2.2.1
theorem d_CM_kinds_10 : decode prog_1_method_67_code 10 = .ok (.istore_n 2, 1) := F_CM_kinds_4.2.2.2.2.1
theorem d_CM_kinds_11 : decode prog_1_method_67_code 11 = .ok (.iconst 0, 1) := F_CM_kinds_4.2.2.2.2.2.1
theorem d_CM_kinds_12 : decode prog_1_method_67_code 12 = .ok (.istore_n 3, 1) := F_CM_kinds_4.2.2.2.2.2.2.1
theorem d_CM_kinds_13 : decode prog_1_method_67_code 13 = .ok (.iload_n 3, 1) := F_CM_kinds_4.2.2.2.2.2.2.2.1
theorem d_CM_kinds_14 : decode prog_1_method_67_code 14 = .ok (.aload_n 0, 1) := F_CM_kinds_4.2.2.2.2.2.2.2.2.1
theorem d_CM_kinds_15 : decode prog_1_method_67_code 15 = .ok (.getfield 12, 3) := F_CM_kinds_4.2.2.2.2.2.2.2.2.2.1
theorem d_CM_kinds_18 : decode prog_1_method_67_code 18 = .ok (.getfield 225, 3) := F_CM_kinds_4.2.2.2.2.2.2.2.2.2.2.1
theorem d_CM_kinds_21 : decode prog_1_method_67_code 21 = .ok (.if_icmp .ge (28), 3) := F_CM_kinds_4.2.2.2.2.2.2.2.2.2.2.2.1
theorem F_CM_kinds_49 : Jvm.Free.DS.Facts prog_1_method_67_code 49 [(.iload_n 2, 1), (.ireturn, 1)] := Jvm.Free.DS.facts 49 _ (by decide +kernel) (by decide +kernel)
theorem d_CM_kinds_49 : decode prog_1_method_67_code 49 = .ok (.iload_n 2, 1) := F_CM_kinds_49.1
theorem d_CM_kinds_50 : decode prog_1_method_67_code 50 = .ok (.ireturn, 1) := F_CM_kinds_49.2.1
theorem F_CM_pairs_4 : Jvm.Free.DS.Facts prog_1_method_68_code 4 [(.ifCond .ne (5), 3), (.iconst (-1), 1), (.ireturn, 1), (.iconst 0, 1), (.istore_n 2, 1), (.iconst 0, 1), (.istore_n 3, 1), (.iload_n 3, 1), (.aload_n 0, 1), (.getfield 12, 3), (.getfield 225, 3), (.if_icmp .ge (46), 3)] := Jvm.Free.DS.facts 4 _ (by decide +kernel) (by decide +kernel)
theorem d_CM_pairs_4 : decode prog_1_method_68_code 4 = .ok (.ifCond .ne (5), 3) := F_CM_pairs_4.1
theorem d_CM_pairs_7 : decode prog_1_method_68_code 7 = .ok (.iconst (-1), 1) := F_CM_pairs_4.2.1
theorem d_CM_pairs_8 : decode prog_1_method_68_code 8 = .ok (.ireturn, 1) := F_CM_pairs_4.2.2.1
theorem d_CM_pairs_9 : decode prog_1_method_68_code 9 = .ok (.iconst 0, 1) := F_CM_pairs_4.2.2.2.1
theorem d_CM_pairs_10 : decode prog_1_method_68_code 10 = .ok (.istore_n 2, 1) := F_CM_pairs_4.2.2.2.2.1
theorem d_CM_pairs_11 : decode prog_1_method_68_code 11 = .ok (.iconst 0, 1) := F_CM_pairs_4.2.2.2.2.2.1
theorem d_CM_pairs_12 : decode prog_1_method_68_code 12 = .ok (.istore_n 3, 1) := F_CM_pairs_4.2.2.2.2.2.2.1
theorem d_CM_pairs_13 : decode prog_1_method_68_code 13 = .ok (.iload_n 3, 1) := F_CM_pairs_4.2.2.2.2.2.2.2.1
theorem d_CM_pairs_14 : decode prog_1_method_68_code 14 = .ok (.aload_n 0, 1) := F_CM_pairs_4.2.2.2.2.2.2.2.2.1
theorem d_CM_pairs_15 : decode prog_1_method_68_code 15 = .ok (.getfield 12, 3) := F_CM_pairs_4.2.2.2.2.2.2.2.2.2.1
theorem d_CM_pairs_18 : decode prog_1_method_68_code 18 = .ok (.getfield 225, 3) := F_CM_pairs_4.2.2.2.2.2.2.2.2.2.2.1
theorem d_CM_pairs_21 : decode prog_1_method_68_code 21 = .ok (.if_icmp .ge (46), 3) := F_CM_pairs_4.2.2.2.2.2.2.2.2.2.2.2.1
theorem F_CM_pairs_67 : Jvm.Free.DS.Facts prog_1_method_68_code 67 [(.iload_n 2, 1), (.ireturn, 1)] := Jvm.Free.DS.facts 67 _ (by decide +kernel) (by decide +kernel)
theorem d_CM_pairs_67 : decode prog_1_method_68_code 67 = .ok (.iload_n 2, 1) := F_CM_pairs_67.1
theorem d_CM_pairs_68 : decode prog_1_method_68_code 68 = .ok (.ireturn, 1) := F_CM_pairs_67.2.1
theorem F_Pairs_fill_0 : Jvm.Free.DS.Facts prog_4_method_2_code 0 [(.aload_n 0, 1), (.aload_n 1, 1), (.getfield 16, 3), (.putfield 22, 3), (.aload_n 0, 1), (.aload_n 0, 1), (.getfield 22, 3), (.aload_n 0, 1), (.getfield 22, 3), (.imul, 1), (.putfield 25, 3), (.iconst 0, 1), (.istore_n 2, 1), (.iload_n 2, 1), (.aload_n 0, 1), (.getfield 22, 3), (.if_icmp .ge (53), 3)] := Jvm.Free.DS.facts 0 _ (by decide +kernel) (by decide +kernel)
theorem d_Pairs_fill_0 : decode prog_4_method_2_code 0 = .ok (.aload_n 0, 1) := F_Pairs_fill_0.1
theorem d_Pairs_fill_1 : decode prog_4_method_2_code 1 = .ok (.aload_n 1, 1) := F_Pairs_fill_0.2.1
theorem d_Pairs_fill_2 : decode prog_4_method_2_code 2 = .ok (.getfield 16, 3) := F_Pairs_fill_0.2.2.1
theorem d_Pairs_fill_5 : decode prog_4_method_2_code 5 = .ok (.putfield 22, 3) := F_Pairs_fill_0.2.2.2.1
theorem d_Pairs_fill_8 : decode prog_4_method_2_code 8 = .ok (.aload_n 0, 1) := F_Pairs_fill_0.2.2.2.2.1
theorem d_Pairs_fill_9 : decode prog_4_method_2_code 9 = .ok (.aload_n 0, 1) := F_Pairs_fill_0.2.2.2.2.2.1
theorem d_Pairs_fill_10 : decode prog_4_method_2_code 10 = .ok (.getfield 22, 3) := F_Pairs_fill_0.2.2.2.2.2.2.1
theorem d_Pairs_fill_13 : decode prog_4_method_2_code 13 = .ok (.aload_n 0, 1) := F_Pairs_fill_0.2.2.2.2.2.2.2.1
theorem d_Pairs_fill_14 : decode prog_4_method_2_code 14 = .ok (.getfield 22, 3) := F_Pairs_fill_0.2.2.2.2.2.2.2.2.1
theorem d_Pairs_fill_17 : decode prog_4_method_2_code 17 = .ok (.imul, 1) := F_Pairs_fill_0.2.2.2.2.2.2.2.2.2.1
theorem d_Pairs_fill_18 : decode prog_4_method_2_code 18 = .ok (.putfield 25, 3) := F_Pairs_fill_0.2.2.2.2.2.2.2.2.2.2.1
theorem d_Pairs_fill_21 : decode prog_4_method_2_code 21 = .ok (.iconst 0, 1) := F_Pairs_fill_0.2.2.2.2.2.2.2.2.2.2.2.1
theorem d_Pairs_fill_22 : decode prog_4_method_2_code 22 = .ok (.istore_n 2, 1) := F_Pairs_fill_0.2.2.2.2.2.2.2.2.2.2.2.2.1
theorem d_Pairs_fill_23 : decode prog_4_method_2_code 23 = .ok (.iload_n 2, 1) := F_Pairs_fill_0.2.2.2.2.2.2.2.2.2.2.2.2.2.1
theorem d_Pairs_fill_24 : decode prog_4_method_2_code 24 = .ok (.aload_n 0, 1) := F_Pairs_fill_0.2.2.2.2.2.2.2.2.2.2.2.2.2.2.1
theorem d_Pairs_fill_25 : decode prog_4_method_2_code 25 = .ok (.getfield 22, 3) := F_Pairs_fill_0.2.2.2.2.2.2.2.2.2.2.2.2.2.2.2.1
theorem d_Pairs_fill_28 : decode prog_4_method_2_code 28 = .ok (.if_icmp .ge (53), 3) := F_Pairs_fill_0.2.2.2.2.2.2.2.2.2.2.2.2.2.2.2.2.1
theorem F_Pairs_fill_81 : Jvm.Free.DS.Facts prog_4_method_2_code 81 [(.return_, 1)] := Jvm.Free.DS.facts 81 _ (by decide +kernel) (by decide +kernel)
theorem d_Pairs_fill_81 : decode prog_4_method_2_code 81 = .ok (.return_, 1) := F_Pairs_fill_81.1
theorem F_Plane_finitePoints_0 : Jvm.Free.DS.Facts prog_6_method_10_code 0 [(.iconst 0, 1), (.istore_n 1, 1), (.iconst 0, 1), (.istore_n 2, 1), (.iload_n 2, 1), (.aload_n 0, 1), (.getfield 36, 3), (.if_icmp .ge (24), 3)] := Jvm.Free.DS.facts 0 _ (by decide +kernel) (by decide +kernel)
theorem d_Plane_finitePoints_0 : decode prog_6_method_10_code 0 = .ok (.iconst 0, 1) := F_Plane_finitePoints_0.1
theorem d_Plane_finitePoints_1 : decode prog_6_method_10_code 1 = .ok (.istore_n 1, 1) := F_Plane_finitePoints_0.2.1
theorem d_Plane_finitePoints_2 : decode prog_6_method_10_code 2 = .ok (.iconst 0, 1) := F_Plane_finitePoints_0.2.2.1
theorem d_Plane_finitePoints_3 : decode prog_6_method_10_code 3 = .ok (.istore_n 2, 1) := F_Plane_finitePoints_0.2.2.2.1
theorem d_Plane_finitePoints_4 : decode prog_6_method_10_code 4 = .ok (.iload_n 2, 1) := F_Plane_finitePoints_0.2.2.2.2.1
theorem d_Plane_finitePoints_5 : decode prog_6_method_10_code 5 = .ok (.aload_n 0, 1) := F_Plane_finitePoints_0.2.2.2.2.2.1
theorem d_Plane_finitePoints_6 : decode prog_6_method_10_code 6 = .ok (.getfield 36, 3) := F_Plane_finitePoints_0.2.2.2.2.2.2.1
theorem d_Plane_finitePoints_9 : decode prog_6_method_10_code 9 = .ok (.if_icmp .ge (24), 3) := F_Plane_finitePoints_0.2.2.2.2.2.2.2.1
theorem F_Plane_finitePoints_33 : Jvm.Free.DS.Facts prog_6_method_10_code 33 [(.iload_n 1, 1), (.ireturn, 1)] := Jvm.Free.DS.facts 33 _ (by decide +kernel) (by decide +kernel)
theorem d_Plane_finitePoints_33 : decode prog_6_method_10_code 33 = .ok (.iload_n 1, 1) := F_Plane_finitePoints_33.1
theorem d_Plane_finitePoints_34 : decode prog_6_method_10_code 34 = .ok (.ireturn, 1) := F_Plane_finitePoints_33.2.1
theorem F_MD_finite_0 : Jvm.Free.DS.Facts prog_12_method_160_code 0 [(.iconst 0, 1), (.istore_n 1, 1), (.iconst 0, 1), (.istore_n 2, 1), (.iload_n 2, 1), (.i2l, 1), (.aload_n 0, 1), (.getfield 21, 3), (.sipush (169), 3), (.laload, 1), (.lcmp, 1), (.ifCond .ge (28), 3)] := Jvm.Free.DS.facts 0 _ (by decide +kernel) (by decide +kernel)
theorem d_MD_finite_0 : decode prog_12_method_160_code 0 = .ok (.iconst 0, 1) := F_MD_finite_0.1
theorem d_MD_finite_1 : decode prog_12_method_160_code 1 = .ok (.istore_n 1, 1) := F_MD_finite_0.2.1
theorem d_MD_finite_2 : decode prog_12_method_160_code 2 = .ok (.iconst 0, 1) := F_MD_finite_0.2.2.1
theorem d_MD_finite_3 : decode prog_12_method_160_code 3 = .ok (.istore_n 2, 1) := F_MD_finite_0.2.2.2.1
theorem d_MD_finite_4 : decode prog_12_method_160_code 4 = .ok (.iload_n 2, 1) := F_MD_finite_0.2.2.2.2.1
theorem d_MD_finite_5 : decode prog_12_method_160_code 5 = .ok (.i2l, 1) := F_MD_finite_0.2.2.2.2.2.1
theorem d_MD_finite_6 : decode prog_12_method_160_code 6 = .ok (.aload_n 0, 1) := F_MD_finite_0.2.2.2.2.2.2.1
theorem d_MD_finite_7 : decode prog_12_method_160_code 7 = .ok (.getfield 21, 3) := F_MD_finite_0.2.2.2.2.2.2.2.1
theorem d_MD_finite_10 : decode prog_12_method_160_code 10 = .ok (.sipush (169), 3) := F_MD_finite_0.2.2.2.2.2.2.2.2.1
theorem d_MD_finite_13 : decode prog_12_method_160_code 13 = .ok (.laload, 1) := F_MD_finite_0.2.2.2.2.2.2.2.2.2.1
theorem d_MD_finite_14 : decode prog_12_method_160_code 14 = .ok (.lcmp, 1) := F_MD_finite_0.2.2.2.2.2.2.2.2.2.2.1
theorem d_MD_finite_15 : decode prog_12_method_160_code 15 = .ok (.ifCond .ge (28), 3) := F_MD_finite_0.2.2.2.2.2.2.2.2.2.2.2.1
theorem F_MD_finite_43 : Jvm.Free.DS.Facts prog_12_method_160_code 43 [(.iload_n 1, 1), (.ireturn, 1)] := Jvm.Free.DS.facts 43 _ (by decide +kernel) (by decide +kernel)
theorem d_MD_finite_43 : decode prog_12_method_160_code 43 = .ok (.iload_n 1, 1) := F_MD_finite_43.1
theorem d_MD_finite_44 : decode prog_12_method_160_code 44 = .ok (.ireturn, 1) := F_MD_finite_43.2.1
theorem F_CM_generated_5 : Jvm.Free.DS.Facts prog_1_method_51_code 5 [(.iload_n 1, 1), (.iconst 2, 1), (.if_icmp .eq (5), 3), (.iconst (-1), 1), (.ireturn, 1)] := Jvm.Free.DS.facts 5 _ (by decide +kernel) (by decide +kernel)
theorem d_CM_generated_5 : decode prog_1_method_51_code 5 = .ok (.iload_n 1, 1) := F_CM_generated_5.1
theorem d_CM_generated_6 : decode prog_1_method_51_code 6 = .ok (.iconst 2, 1) := F_CM_generated_5.2.1
theorem d_CM_generated_7 : decode prog_1_method_51_code 7 = .ok (.if_icmp .eq (5), 3) := F_CM_generated_5.2.2.1
theorem d_CM_generated_10 : decode prog_1_method_51_code 10 = .ok (.iconst (-1), 1) := F_CM_generated_5.2.2.2.1
theorem d_CM_generated_11 : decode prog_1_method_51_code 11 = .ok (.ireturn, 1) := F_CM_generated_5.2.2.2.2.1
theorem F_CM_count_44 : Jvm.Free.DS.Facts prog_1_method_73_code 44 [(.aload_n 0, 1), (.getfield 12, 3), (.getfield 118, 3), (.ireturn, 1), (.aload_n 0, 1), (.getfield 12, 3), (.getfield 415, 3), (.ireturn, 1), (.aload_n 0, 1), (.getfield 12, 3), (.getfield 225, 3), (.ireturn, 1), (.aload_n 0, 1), (.getfield 12, 3), (.getfield 232, 3), (.ireturn, 1), (.aload_n 0, 1), (.getfield 12, 3), (.invokevirtual 257, 3), (.ireturn, 1), (.aload_n 0, 1), (.getfield 47, 3), (.getfield 260, 3), (.ireturn, 1), (.aload_n 0, 1), (.getfield 24, 3), (.getfield 107, 3), (.ireturn, 1), (.iconst (-1), 1), (.ireturn, 1)] := Jvm.Free.DS.facts 44 _ (by decide +kernel) (by decide +kernel)
theorem d_CM_count_44 : decode prog_1_method_73_code 44 = .ok (.aload_n 0, 1) := F_CM_count_44.1
theorem d_CM_count_45 : decode prog_1_method_73_code 45 = .ok (.getfield 12, 3) := F_CM_count_44.2.1
theorem d_CM_count_48 : decode prog_1_method_73_code 48 = .ok (.getfield 118, 3) := F_CM_count_44.2.2.1
theorem d_CM_count_51 : decode prog_1_method_73_code 51 = .ok (.ireturn, 1) := F_CM_count_44.2.2.2.1
theorem d_CM_count_52 : decode prog_1_method_73_code 52 = .ok (.aload_n 0, 1) := F_CM_count_44.2.2.2.2.1
theorem d_CM_count_53 : decode prog_1_method_73_code 53 = .ok (.getfield 12, 3) := F_CM_count_44.2.2.2.2.2.1
theorem d_CM_count_56 : decode prog_1_method_73_code 56 = .ok (.getfield 415, 3) := F_CM_count_44.2.2.2.2.2.2.1
theorem d_CM_count_59 : decode prog_1_method_73_code 59 = .ok (.ireturn, 1) := F_CM_count_44.2.2.2.2.2.2.2.1
theorem d_CM_count_60 : decode prog_1_method_73_code 60 = .ok (.aload_n 0, 1) := F_CM_count_44.2.2.2.2.2.2.2.2.1
theorem d_CM_count_61 : decode prog_1_method_73_code 61 = .ok (.getfield 12, 3) := F_CM_count_44.2.2.2.2.2.2.2.2.2.1
theorem d_CM_count_64 : decode prog_1_method_73_code 64 = .ok (.getfield 225, 3) := F_CM_count_44.2.2.2.2.2.2.2.2.2.2.1
theorem d_CM_count_67 : decode prog_1_method_73_code 67 = .ok (.ireturn, 1) := F_CM_count_44.2.2.2.2.2.2.2.2.2.2.2.1
theorem d_CM_count_68 : decode prog_1_method_73_code 68 = .ok (.aload_n 0, 1) := F_CM_count_44.2.2.2.2.2.2.2.2.2.2.2.2.1
theorem d_CM_count_69 : decode prog_1_method_73_code 69 = .ok (.getfield 12, 3) := F_CM_count_44.2.2.2.2.2.2.2.2.2.2.2.2.2.1
theorem d_CM_count_72 : decode prog_1_method_73_code 72 = .ok (.getfield 232, 3) := F_CM_count_44.2.2.2.2.2.2.2.2.2.2.2.2.2.2.1
theorem d_CM_count_75 : decode prog_1_method_73_code 75 = .ok (.ireturn, 1) := F_CM_count_44.2.2.2.2.2.2.2.2.2.2.2.2.2.2.2.1
theorem d_CM_count_76 : decode prog_1_method_73_code 76 = .ok (.aload_n 0, 1) := F_CM_count_44.2.2.2.2.2.2.2.2.2.2.2.2.2.2.2.2.1
theorem d_CM_count_77 : decode prog_1_method_73_code 77 = .ok (.getfield 12, 3) := F_CM_count_44.2.2.2.2.2.2.2.2.2.2.2.2.2.2.2.2.2.1
theorem d_CM_count_80 : decode prog_1_method_73_code 80 = .ok (.invokevirtual 257, 3) := F_CM_count_44.2.2.2.2.2.2.2.2.2.2.2.2.2.2.2.2.2.2.1
theorem d_CM_count_83 : decode prog_1_method_73_code 83 = .ok (.ireturn, 1) := F_CM_count_44.2.2.2.2.2.2.2.2.2.2.2.2.2.2.2.2.2.2.2.1
theorem d_CM_count_84 : decode prog_1_method_73_code 84 = .ok (.aload_n 0, 1) := F_CM_count_44.2.2.2.2.2.2.2.2.2.2.2.2.2.2.2.2.2.2.2.2.1
theorem d_CM_count_85 : decode prog_1_method_73_code 85 = .ok (.getfield 47, 3) := F_CM_count_44.2.2.2.2.2.2.2.2.2.2.2.2.2.2.2.2.2.2.2.2.2.1
theorem d_CM_count_88 : decode prog_1_method_73_code 88 = .ok (.getfield 260, 3) := F_CM_count_44.2.2.2.2.2.2.2.2.2.2.2.2.2.2.2.2.2.2.2.2.2.2.1
theorem d_CM_count_91 : decode prog_1_method_73_code 91 = .ok (.ireturn, 1) := F_CM_count_44.2.2.2.2.2.2.2.2.2.2.2.2.2.2.2.2.2.2.2.2.2.2.2.1
theorem d_CM_count_92 : decode prog_1_method_73_code 92 = .ok (.aload_n 0, 1) := F_CM_count_44.2.2.2.2.2.2.2.2.2.2.2.2.2.2.2.2.2.2.2.2.2.2.2.2.1
theorem d_CM_count_93 : decode prog_1_method_73_code 93 = .ok (.getfield 24, 3) := F_CM_count_44.2.2.2.2.2.2.2.2.2.2.2.2.2.2.2.2.2.2.2.2.2.2.2.2.2.1
theorem d_CM_count_96 : decode prog_1_method_73_code 96 = .ok (.getfield 107, 3) := F_CM_count_44.2.2.2.2.2.2.2.2.2.2.2.2.2.2.2.2.2.2.2.2.2.2.2.2.2.2.1
theorem d_CM_count_99 : decode prog_1_method_73_code 99 = .ok (.ireturn, 1) := F_CM_count_44.2.2.2.2.2.2.2.2.2.2.2.2.2.2.2.2.2.2.2.2.2.2.2.2.2.2.2.1
theorem d_CM_count_100 : decode prog_1_method_73_code 100 = .ok (.iconst (-1), 1) := F_CM_count_44.2.2.2.2.2.2.2.2.2.2.2.2.2.2.2.2.2.2.2.2.2.2.2.2.2.2.2.2.1
theorem d_CM_count_101 : decode prog_1_method_73_code 101 = .ok (.ireturn, 1) := F_CM_count_44.2.2.2.2.2.2.2.2.2.2.2.2.2.2.2.2.2.2.2.2.2.2.2.2.2.2.2.2.2.1
theorem F_MD_count_48 : Jvm.Free.DS.Facts prog_12_method_161_code 48 [(.aload_n 0, 1), (.getfield 207, 3), (.ireturn, 1), (.aload_n 0, 1), (.getfield 204, 3), (.ireturn, 1), (.aload_n 0, 1), (.getfield 21, 3), (.sipush (168), 3), (.laload, 1), (.l2i, 1), (.ireturn, 1), (.aload_n 0, 1), (.getfield 21, 3), (.sipush (169), 3), (.laload, 1), (.l2i, 1), (.ireturn, 1), (.aload_n 0, 1), (.invokevirtual 483, 3), (.ireturn, 1), (.aload_n 0, 1), (.getfield 71, 3), (.ireturn, 1), (.aload_n 0, 1), (.getfield 77, 3), (.ireturn, 1), (.iconst (-1), 1), (.ireturn, 1)] := Jvm.Free.DS.facts 48 _ (by decide +kernel) (by decide +kernel)
theorem d_MD_count_48 : decode prog_12_method_161_code 48 = .ok (.aload_n 0, 1) := F_MD_count_48.1
theorem d_MD_count_49 : decode prog_12_method_161_code 49 = .ok (.getfield 207, 3) := F_MD_count_48.2.1
theorem d_MD_count_52 : decode prog_12_method_161_code 52 = .ok (.ireturn, 1) := F_MD_count_48.2.2.1
theorem d_MD_count_53 : decode prog_12_method_161_code 53 = .ok (.aload_n 0, 1) := F_MD_count_48.2.2.2.1
theorem d_MD_count_54 : decode prog_12_method_161_code 54 = .ok (.getfield 204, 3) := F_MD_count_48.2.2.2.2.1
theorem d_MD_count_57 : decode prog_12_method_161_code 57 = .ok (.ireturn, 1) := F_MD_count_48.2.2.2.2.2.1
theorem d_MD_count_58 : decode prog_12_method_161_code 58 = .ok (.aload_n 0, 1) := F_MD_count_48.2.2.2.2.2.2.1
theorem d_MD_count_59 : decode prog_12_method_161_code 59 = .ok (.getfield 21, 3) := F_MD_count_48.2.2.2.2.2.2.2.1
theorem d_MD_count_62 : decode prog_12_method_161_code 62 = .ok (.sipush (168), 3) := F_MD_count_48.2.2.2.2.2.2.2.2.1
theorem d_MD_count_65 : decode prog_12_method_161_code 65 = .ok (.laload, 1) := F_MD_count_48.2.2.2.2.2.2.2.2.2.1
theorem d_MD_count_66 : decode prog_12_method_161_code 66 = .ok (.l2i, 1) := F_MD_count_48.2.2.2.2.2.2.2.2.2.2.1
theorem d_MD_count_67 : decode prog_12_method_161_code 67 = .ok (.ireturn, 1) := F_MD_count_48.2.2.2.2.2.2.2.2.2.2.2.1
theorem d_MD_count_68 : decode prog_12_method_161_code 68 = .ok (.aload_n 0, 1) := F_MD_count_48.2.2.2.2.2.2.2.2.2.2.2.2.1
theorem d_MD_count_69 : decode prog_12_method_161_code 69 = .ok (.getfield 21, 3) := F_MD_count_48.2.2.2.2.2.2.2.2.2.2.2.2.2.1
theorem d_MD_count_72 : decode prog_12_method_161_code 72 = .ok (.sipush (169), 3) := F_MD_count_48.2.2.2.2.2.2.2.2.2.2.2.2.2.2.1
theorem d_MD_count_75 : decode prog_12_method_161_code 75 = .ok (.laload, 1) := F_MD_count_48.2.2.2.2.2.2.2.2.2.2.2.2.2.2.2.1
theorem d_MD_count_76 : decode prog_12_method_161_code 76 = .ok (.l2i, 1) := F_MD_count_48.2.2.2.2.2.2.2.2.2.2.2.2.2.2.2.2.1
theorem d_MD_count_77 : decode prog_12_method_161_code 77 = .ok (.ireturn, 1) := F_MD_count_48.2.2.2.2.2.2.2.2.2.2.2.2.2.2.2.2.2.1
theorem d_MD_count_78 : decode prog_12_method_161_code 78 = .ok (.aload_n 0, 1) := F_MD_count_48.2.2.2.2.2.2.2.2.2.2.2.2.2.2.2.2.2.2.1
theorem d_MD_count_79 : decode prog_12_method_161_code 79 = .ok (.invokevirtual 483, 3) := F_MD_count_48.2.2.2.2.2.2.2.2.2.2.2.2.2.2.2.2.2.2.2.1
theorem d_MD_count_82 : decode prog_12_method_161_code 82 = .ok (.ireturn, 1) := F_MD_count_48.2.2.2.2.2.2.2.2.2.2.2.2.2.2.2.2.2.2.2.2.1
theorem d_MD_count_83 : decode prog_12_method_161_code 83 = .ok (.aload_n 0, 1) := F_MD_count_48.2.2.2.2.2.2.2.2.2.2.2.2.2.2.2.2.2.2.2.2.2.1
theorem d_MD_count_84 : decode prog_12_method_161_code 84 = .ok (.getfield 71, 3) := F_MD_count_48.2.2.2.2.2.2.2.2.2.2.2.2.2.2.2.2.2.2.2.2.2.2.1
theorem d_MD_count_87 : decode prog_12_method_161_code 87 = .ok (.ireturn, 1) := F_MD_count_48.2.2.2.2.2.2.2.2.2.2.2.2.2.2.2.2.2.2.2.2.2.2.2.1
theorem d_MD_count_88 : decode prog_12_method_161_code 88 = .ok (.aload_n 0, 1) := F_MD_count_48.2.2.2.2.2.2.2.2.2.2.2.2.2.2.2.2.2.2.2.2.2.2.2.2.1
theorem d_MD_count_89 : decode prog_12_method_161_code 89 = .ok (.getfield 77, 3) := F_MD_count_48.2.2.2.2.2.2.2.2.2.2.2.2.2.2.2.2.2.2.2.2.2.2.2.2.2.1
theorem d_MD_count_92 : decode prog_12_method_161_code 92 = .ok (.ireturn, 1) := F_MD_count_48.2.2.2.2.2.2.2.2.2.2.2.2.2.2.2.2.2.2.2.2.2.2.2.2.2.2.1
theorem d_MD_count_93 : decode prog_12_method_161_code 93 = .ok (.iconst (-1), 1) := F_MD_count_48.2.2.2.2.2.2.2.2.2.2.2.2.2.2.2.2.2.2.2.2.2.2.2.2.2.2.2.1
theorem d_MD_count_94 : decode prog_12_method_161_code 94 = .ok (.ireturn, 1) := F_MD_count_48.2.2.2.2.2.2.2.2.2.2.2.2.2.2.2.2.2.2.2.2.2.2.2.2.2.2.2.2.1
theorem d_CM_count_1 : decode prog_1_method_73_code 1 = .ok (.tableswitch 99 0 6 #[43, 51, 59, 67, 75, 83, 91], 43) := by decide +kernel
theorem d_MD_count_6 : decode prog_12_method_161_code 6 = .ok (.tableswitch 87 0 6 #[42, 47, 52, 62, 72, 77, 82], 42) := by decide +kernel
theorem z_CM_isPart_in {G : pG} {w : pW} {a1 : Int32} (ha : 0 ≤ a1 ∧ a1 ≤ 1) : PM G M_CM_isPart 0 0 0 [.int a1] w (fun r w' => r = some (.int 1) ∧ w' = w) := by
  rcases i_in01 ha with rfl | rfl
  · refine PM_of pn_CM_isPart (le_b rfl) ?_
    show PW _ _ _ _ _ _ (0, [(0, .int 0)], [], w)
    refine P_iload_n d_CM_isPart_0 rfl ?_
    refine P_if_eq 9 d_CM_isPart_1 (by decide) (fun _ => ?_) (fun h => absurd (by decide) h)
    refine P_iconst (v := 1) d_CM_isPart_9 (by decide) ?_
    refine P_goto 14 d_CM_isPart_10 (by decide) ?_
    exact P_zret d_CM_isPart_14 rfl rfl (le_b rfl) (le_b rfl) ⟨rfl, rfl⟩
  · refine PM_of pn_CM_isPart (le_b rfl) ?_
    show PW _ _ _ _ _ _ (0, [(0, .int 1)], [], w)
    refine P_iload_n d_CM_isPart_0 rfl ?_
    refine P_if_eq 9 d_CM_isPart_1 (by decide) (fun h => absurd h (by decide)) (fun _ => ?_)
    refine P_iload_n d_CM_isPart_4 rfl ?_
    refine P_iconst (v := 1) d_CM_isPart_5 (by decide) ?_
    refine P_icmp_ne 13 d_CM_isPart_6 (by decide) (fun h => absurd (by decide) h) (fun _ => ?_)
    refine P_iconst (v := 1) d_CM_isPart_9 (by decide) ?_
    refine P_goto 14 d_CM_isPart_10 (by decide) ?_
    exact P_zret d_CM_isPart_14 rfl rfl (le_b rfl) (le_b rfl) ⟨rfl, rfl⟩
theorem z_CM_isPart_out {G : pG} {w : pW} {a1 : Int32} (ho : ¬ (0 ≤ a1 ∧ a1 ≤ 1)) : PM G M_CM_isPart 0 0 0 [.int a1] w (fun r w' => r = some (.int 0) ∧ w' = w) := by
  refine PM_of pn_CM_isPart (le_b rfl) ?_
  show PW _ _ _ _ _ _ (0, [(0, .int a1)], [], w)
  refine P_iload_n d_CM_isPart_0 rfl ?_
  refine P_if_eq 9 d_CM_isPart_1 (by decide) (fun c1 => by exfalso; simp only [Int32.lt_iff_toInt_lt, Int32.le_iff_toInt_le, ← Int32.toInt_inj, Int32.reduceToInt] at ho c1; omega) (fun c1 => ?_)
  refine P_iload_n d_CM_isPart_4 rfl ?_
  refine P_iconst (v := 1) d_CM_isPart_5 (by decide) ?_
  refine P_icmp_ne 13 d_CM_isPart_6 (by decide) (fun c2 => ?_) (fun c2 => by exfalso; simp only [Int32.lt_iff_toInt_lt, Int32.le_iff_toInt_le, ← Int32.toInt_inj, Int32.reduceToInt] at ho c1 c2; omega)
  refine P_iconst (v := 0) d_CM_isPart_13 (by decide) ?_
  exact P_zret d_CM_isPart_14 rfl rfl (le_b rfl) (le_b rfl) ⟨rfl, rfl⟩
theorem z_CM_isPart {G : pG} {w : pW} (a1 : Int32) : PM G M_CM_isPart 0 0 0 [.int a1] w (fun r w' => r = some (.int (ff 0 1 1 0 a1)) ∧ w' = w) := by
  by_cases hr : 0 ≤ a1 ∧ a1 ≤ 1
  · rw [ff_in hr]; exact z_CM_isPart_in  hr
  · rw [ff_out hr]; exact z_CM_isPart_out  hr
theorem z_CM_isThird_in {G : pG} {w : pW} {a1 : Int32} (ha : 0 ≤ a1 ∧ a1 ≤ 2) : PM G M_CM_isThird 0 0 0 [.int a1] w (fun r w' => r = some (.int 1) ∧ w' = w) := by
  rcases i_in02 ha with rfl | rfl | rfl
  · refine PM_of pn_CM_isThird (le_b rfl) ?_
    show PW _ _ _ _ _ _ (0, [(0, .int 0)], [], w)
    refine P_iload_n d_CM_isThird_0 rfl ?_
    refine P_if_lt 13 d_CM_isThird_1 (by decide) (fun h => absurd h (by decide)) (fun _ => ?_)
    refine P_iload_n d_CM_isThird_4 rfl ?_
    refine P_iconst (v := 3) d_CM_isThird_5 (by decide) ?_
    refine P_icmp_ge 13 d_CM_isThird_6 (by decide) (fun h => absurd h (by decide)) (fun _ => ?_)
    refine P_iconst (v := 1) d_CM_isThird_9 (by decide) ?_
    refine P_goto 14 d_CM_isThird_10 (by decide) ?_
    exact P_zret d_CM_isThird_14 rfl rfl (le_b rfl) (le_b rfl) ⟨rfl, rfl⟩
  · refine PM_of pn_CM_isThird (le_b rfl) ?_
    show PW _ _ _ _ _ _ (0, [(0, .int 1)], [], w)
    refine P_iload_n d_CM_isThird_0 rfl ?_
    refine P_if_lt 13 d_CM_isThird_1 (by decide) (fun h => absurd h (by decide)) (fun _ => ?_)
    refine P_iload_n d_CM_isThird_4 rfl ?_
    refine P_iconst (v := 3) d_CM_isThird_5 (by decide) ?_
    refine P_icmp_ge 13 d_CM_isThird_6 (by decide) (fun h => absurd h (by decide)) (fun _ => ?_)
    refine P_iconst (v := 1) d_CM_isThird_9 (by decide) ?_
    refine P_goto 14 d_CM_isThird_10 (by decide) ?_
    exact P_zret d_CM_isThird_14 rfl rfl (le_b rfl) (le_b rfl) ⟨rfl, rfl⟩
  · refine PM_of pn_CM_isThird (le_b rfl) ?_
    show PW _ _ _ _ _ _ (0, [(0, .int 2)], [], w)
    refine P_iload_n d_CM_isThird_0 rfl ?_
    refine P_if_lt 13 d_CM_isThird_1 (by decide) (fun h => absurd h (by decide)) (fun _ => ?_)
    refine P_iload_n d_CM_isThird_4 rfl ?_
    refine P_iconst (v := 3) d_CM_isThird_5 (by decide) ?_
    refine P_icmp_ge 13 d_CM_isThird_6 (by decide) (fun h => absurd h (by decide)) (fun _ => ?_)
    refine P_iconst (v := 1) d_CM_isThird_9 (by decide) ?_
    refine P_goto 14 d_CM_isThird_10 (by decide) ?_
    exact P_zret d_CM_isThird_14 rfl rfl (le_b rfl) (le_b rfl) ⟨rfl, rfl⟩
theorem z_CM_isThird_out {G : pG} {w : pW} {a1 : Int32} (ho : ¬ (0 ≤ a1 ∧ a1 ≤ 2)) : PM G M_CM_isThird 0 0 0 [.int a1] w (fun r w' => r = some (.int 0) ∧ w' = w) := by
  refine PM_of pn_CM_isThird (le_b rfl) ?_
  show PW _ _ _ _ _ _ (0, [(0, .int a1)], [], w)
  refine P_iload_n d_CM_isThird_0 rfl ?_
  refine P_if_lt 13 d_CM_isThird_1 (by decide) (fun c1 => ?_) (fun c1 => ?_)
  · refine P_iconst (v := 0) d_CM_isThird_13 (by decide) ?_
    exact P_zret d_CM_isThird_14 rfl rfl (le_b rfl) (le_b rfl) ⟨rfl, rfl⟩
  · refine P_iload_n d_CM_isThird_4 rfl ?_
    refine P_iconst (v := 3) d_CM_isThird_5 (by decide) ?_
    refine P_icmp_ge 13 d_CM_isThird_6 (by decide) (fun c2 => ?_) (fun c2 => by exfalso; simp only [Int32.lt_iff_toInt_lt, Int32.le_iff_toInt_le, ← Int32.toInt_inj, Int32.reduceToInt] at ho c1 c2; omega)
    refine P_iconst (v := 0) d_CM_isThird_13 (by decide) ?_
    exact P_zret d_CM_isThird_14 rfl rfl (le_b rfl) (le_b rfl) ⟨rfl, rfl⟩
theorem z_CM_isThird {G : pG} {w : pW} (a1 : Int32) : PM G M_CM_isThird 0 0 0 [.int a1] w (fun r w' => r = some (.int (ff 0 2 1 0 a1)) ∧ w' = w) := by
  by_cases hr : 0 ≤ a1 ∧ a1 ≤ 2
  · rw [ff_in hr]; exact z_CM_isThird_in  hr
  · rw [ff_out hr]; exact z_CM_isThird_out  hr
theorem z_CM_isKind_in {G : pG} {w : pW} {a1 : Int32} (ha : 0 ≤ a1 ∧ a1 ≤ 5) : PM G M_CM_isKind 0 0 0 [.int a1] w (fun r w' => r = some (.int 1) ∧ w' = w) := by
  rcases i_in05 ha with rfl | rfl | rfl | rfl | rfl | rfl
  · refine PM_of pn_CM_isKind (le_b rfl) ?_
    show PW _ _ _ _ _ _ (0, [(0, .int 0)], [], w)
    refine P_iload_n d_CM_isKind_0 rfl ?_
    refine P_if_lt 13 d_CM_isKind_1 (by decide) (fun h => absurd h (by decide)) (fun _ => ?_)
    refine P_iload_n d_CM_isKind_4 rfl ?_
    refine P_iconst (v := 5) d_CM_isKind_5 (by decide) ?_
    refine P_icmp_gt 13 d_CM_isKind_6 (by decide) (fun h => absurd h (by decide)) (fun _ => ?_)
    refine P_iconst (v := 1) d_CM_isKind_9 (by decide) ?_
    refine P_goto 14 d_CM_isKind_10 (by decide) ?_
    exact P_zret d_CM_isKind_14 rfl rfl (le_b rfl) (le_b rfl) ⟨rfl, rfl⟩
  · refine PM_of pn_CM_isKind (le_b rfl) ?_
    show PW _ _ _ _ _ _ (0, [(0, .int 1)], [], w)
    refine P_iload_n d_CM_isKind_0 rfl ?_
    refine P_if_lt 13 d_CM_isKind_1 (by decide) (fun h => absurd h (by decide)) (fun _ => ?_)
    refine P_iload_n d_CM_isKind_4 rfl ?_
    refine P_iconst (v := 5) d_CM_isKind_5 (by decide) ?_
    refine P_icmp_gt 13 d_CM_isKind_6 (by decide) (fun h => absurd h (by decide)) (fun _ => ?_)
    refine P_iconst (v := 1) d_CM_isKind_9 (by decide) ?_
    refine P_goto 14 d_CM_isKind_10 (by decide) ?_
    exact P_zret d_CM_isKind_14 rfl rfl (le_b rfl) (le_b rfl) ⟨rfl, rfl⟩
  · refine PM_of pn_CM_isKind (le_b rfl) ?_
    show PW _ _ _ _ _ _ (0, [(0, .int 2)], [], w)
    refine P_iload_n d_CM_isKind_0 rfl ?_
    refine P_if_lt 13 d_CM_isKind_1 (by decide) (fun h => absurd h (by decide)) (fun _ => ?_)
    refine P_iload_n d_CM_isKind_4 rfl ?_
    refine P_iconst (v := 5) d_CM_isKind_5 (by decide) ?_
    refine P_icmp_gt 13 d_CM_isKind_6 (by decide) (fun h => absurd h (by decide)) (fun _ => ?_)
    refine P_iconst (v := 1) d_CM_isKind_9 (by decide) ?_
    refine P_goto 14 d_CM_isKind_10 (by decide) ?_
    exact P_zret d_CM_isKind_14 rfl rfl (le_b rfl) (le_b rfl) ⟨rfl, rfl⟩
  · refine PM_of pn_CM_isKind (le_b rfl) ?_
    show PW _ _ _ _ _ _ (0, [(0, .int 3)], [], w)
    refine P_iload_n d_CM_isKind_0 rfl ?_
    refine P_if_lt 13 d_CM_isKind_1 (by decide) (fun h => absurd h (by decide)) (fun _ => ?_)
    refine P_iload_n d_CM_isKind_4 rfl ?_
    refine P_iconst (v := 5) d_CM_isKind_5 (by decide) ?_
    refine P_icmp_gt 13 d_CM_isKind_6 (by decide) (fun h => absurd h (by decide)) (fun _ => ?_)
    refine P_iconst (v := 1) d_CM_isKind_9 (by decide) ?_
    refine P_goto 14 d_CM_isKind_10 (by decide) ?_
    exact P_zret d_CM_isKind_14 rfl rfl (le_b rfl) (le_b rfl) ⟨rfl, rfl⟩
  · refine PM_of pn_CM_isKind (le_b rfl) ?_
    show PW _ _ _ _ _ _ (0, [(0, .int 4)], [], w)
    refine P_iload_n d_CM_isKind_0 rfl ?_
    refine P_if_lt 13 d_CM_isKind_1 (by decide) (fun h => absurd h (by decide)) (fun _ => ?_)
    refine P_iload_n d_CM_isKind_4 rfl ?_
    refine P_iconst (v := 5) d_CM_isKind_5 (by decide) ?_
    refine P_icmp_gt 13 d_CM_isKind_6 (by decide) (fun h => absurd h (by decide)) (fun _ => ?_)
    refine P_iconst (v := 1) d_CM_isKind_9 (by decide) ?_
    refine P_goto 14 d_CM_isKind_10 (by decide) ?_
    exact P_zret d_CM_isKind_14 rfl rfl (le_b rfl) (le_b rfl) ⟨rfl, rfl⟩
  · refine PM_of pn_CM_isKind (le_b rfl) ?_
    show PW _ _ _ _ _ _ (0, [(0, .int 5)], [], w)
    refine P_iload_n d_CM_isKind_0 rfl ?_
    refine P_if_lt 13 d_CM_isKind_1 (by decide) (fun h => absurd h (by decide)) (fun _ => ?_)
    refine P_iload_n d_CM_isKind_4 rfl ?_
    refine P_iconst (v := 5) d_CM_isKind_5 (by decide) ?_
    refine P_icmp_gt 13 d_CM_isKind_6 (by decide) (fun h => absurd h (by decide)) (fun _ => ?_)
    refine P_iconst (v := 1) d_CM_isKind_9 (by decide) ?_
    refine P_goto 14 d_CM_isKind_10 (by decide) ?_
    exact P_zret d_CM_isKind_14 rfl rfl (le_b rfl) (le_b rfl) ⟨rfl, rfl⟩
theorem z_CM_isKind_out {G : pG} {w : pW} {a1 : Int32} (ho : ¬ (0 ≤ a1 ∧ a1 ≤ 5)) : PM G M_CM_isKind 0 0 0 [.int a1] w (fun r w' => r = some (.int 0) ∧ w' = w) := by
  refine PM_of pn_CM_isKind (le_b rfl) ?_
  show PW _ _ _ _ _ _ (0, [(0, .int a1)], [], w)
  refine P_iload_n d_CM_isKind_0 rfl ?_
  refine P_if_lt 13 d_CM_isKind_1 (by decide) (fun c1 => ?_) (fun c1 => ?_)
  · refine P_iconst (v := 0) d_CM_isKind_13 (by decide) ?_
    exact P_zret d_CM_isKind_14 rfl rfl (le_b rfl) (le_b rfl) ⟨rfl, rfl⟩
  · refine P_iload_n d_CM_isKind_4 rfl ?_
    refine P_iconst (v := 5) d_CM_isKind_5 (by decide) ?_
    refine P_icmp_gt 13 d_CM_isKind_6 (by decide) (fun c2 => ?_) (fun c2 => by exfalso; simp only [Int32.lt_iff_toInt_lt, Int32.le_iff_toInt_le, ← Int32.toInt_inj, Int32.reduceToInt] at ho c1 c2; omega)
    refine P_iconst (v := 0) d_CM_isKind_13 (by decide) ?_
    exact P_zret d_CM_isKind_14 rfl rfl (le_b rfl) (le_b rfl) ⟨rfl, rfl⟩
theorem z_CM_isKind {G : pG} {w : pW} (a1 : Int32) : PM G M_CM_isKind 0 0 0 [.int a1] w (fun r w' => r = some (.int (ff 0 5 1 0 a1)) ∧ w' = w) := by
  by_cases hr : 0 ≤ a1 ∧ a1 ≤ 5
  · rw [ff_in hr]; exact z_CM_isKind_in  hr
  · rw [ff_out hr]; exact z_CM_isKind_out  hr
theorem z_CM_fault_in {G : pG} {w : pW} (hC : Has cfL w.2) {a1 : Int32} (ha : 0 ≤ a1 ∧ a1 ≤ 0) : PM G M_CM_fault 0 0 0 [.ref 0, .int a1] w (fun r w' => r = some (.int 0) ∧ w' = w) := by
  rcases i_in00 ha with rfl
  · refine PM_of pn_CM_fault (le_b rfl) ?_
    show PW _ _ _ _ _ _ (0, [(0, .ref 0), (1, .int 0)], [], w)
    refine P_iload_n d_CM_fault_0 rfl ?_
    refine P_if_ne 12 d_CM_fault_1 (by decide) (fun h => absurd (by decide) h) (fun _ => ?_)
    refine P_aload_n d_CM_fault_4 rfl ?_
    refine P_getf (i := 3) d_CM_fault_5 ok_CM (by decide) L_CM_40 (fa hC 28 rfl) rfl ?_
    refine P_getfN (i := 12) d_CM_fault_8 ok_Reader (by decide) L_CM_121 (fa hC 9 rfl) rfl ?_
    exact P_iret d_CM_fault_11 rfl (le_b rfl) (le_b rfl) ⟨rfl, rfl⟩
theorem z_CM_fault_out {G : pG} {w : pW} (hC : Has cfL w.2) {a1 : Int32} (ho : ¬ (0 ≤ a1 ∧ a1 ≤ 0)) : PM G M_CM_fault 0 0 0 [.ref 0, .int a1] w (fun r w' => r = some (.int (-1)) ∧ w' = w) := by
  refine PM_of pn_CM_fault (le_b rfl) ?_
  show PW _ _ _ _ _ _ (0, [(0, .ref 0), (1, .int a1)], [], w)
  refine P_iload_n d_CM_fault_0 rfl ?_
  refine P_if_ne 12 d_CM_fault_1 (by decide) (fun c1 => ?_) (fun c1 => by exfalso; simp only [Int32.lt_iff_toInt_lt, Int32.le_iff_toInt_le, ← Int32.toInt_inj, Int32.reduceToInt] at ho c1; omega)
  refine P_iload_n d_CM_fault_12 rfl ?_
  refine P_iconst (v := 1) d_CM_fault_13 (by decide) ?_
  refine P_icmp_ne 27 d_CM_fault_14 (by decide) (fun c2 => ?_) (fun c2 => ?_)
  · refine P_iconst (v := (-1)) d_CM_fault_27 (by decide) ?_
    exact P_iret d_CM_fault_28 rfl (le_b rfl) (le_b rfl) ⟨rfl, rfl⟩
  · refine P_aload_n d_CM_fault_17 rfl ?_
    refine P_getf (i := 3) d_CM_fault_18 ok_CM (by decide) L_CM_40 (fa hC 28 rfl) rfl ?_
    refine P_getfN (i := 13) d_CM_fault_21 ok_Reader (by decide) L_CM_124 (fa hC 9 rfl) rfl ?_
    refine P_goto 28 d_CM_fault_24 (by decide) ?_
    exact P_iret d_CM_fault_28 rfl (le_b rfl) (le_b rfl) ⟨rfl, rfl⟩
theorem z_CM_fault {G : pG} {w : pW} (hC : Has cfL w.2) (a1 : Int32) : PM G M_CM_fault 0 0 0 [.ref 0, .int a1] w (fun r w' => r = some (.int (ff 0 0 0 (-1) a1)) ∧ w' = w) := by
  by_cases hr : 0 ≤ a1 ∧ a1 ≤ 0
  · rw [ff_in hr]; exact z_CM_fault_in hC hr
  · rw [ff_out hr]; exact z_CM_fault_out hC hr
theorem z_CM_biggest_in {G : pG} {w : pW} (hC : Has cfL w.2) {a1 : Int32} (ha : 0 ≤ a1 ∧ a1 ≤ 1) : PM G M_CM_biggest 1 0 0 [.ref 0, .int a1] w (fun r w' => r = some (.int (-2)) ∧ w' = w) := by
  rcases i_in01 ha with rfl | rfl
  · refine PM_of pn_CM_biggest (le_b rfl) ?_
    show PW _ _ _ _ _ _ (0, [(0, .ref 0), (1, .int 0)], [], w)
    refine P_iload_n d_CM_biggest_0 rfl ?_
    refine P_callS (M := M_CM_biggest) (pc := 1) (as := [.int 0]) d_CM_biggest_1 co_CM_isPart L_CM_136 sm_CM_isPart (z_CM_isPart_in  (a1 := 0) (by decide)) rfl ⟨by decide, by decide⟩ ⟨by decide, by decide⟩ (by decide) ?_ _ rfl
    rintro _ _ ⟨rfl, rfl⟩
    show PW _ _ _ _ _ _ (4, _, [.int 1], _)
    refine P_if_ne 9 d_CM_biggest_4 (by decide) (fun _ => ?_) (fun h => absurd h (by decide))
    refine P_bipush (v := (-2)) d_CM_biggest_9 (by decide) ?_
    refine P_istore_n d_CM_biggest_11 (by decide) rfl ?_
    refine P_lconst (v := 0) d_CM_biggest_12 (by decide) ?_
    refine P_lstore_n d_CM_biggest_13 (by decide) rfl ?_
    refine P_iconst (v := 0) d_CM_biggest_14 (by decide) ?_
    refine P_istore d_CM_biggest_15 (by decide) rfl ?_
    refine P_iload d_CM_biggest_17 rfl ?_
    refine P_aload_n d_CM_biggest_19 rfl ?_
    refine P_getf (i := 0) d_CM_biggest_20 ok_CM (by decide) L_CM_12 (fa hC 28 rfl) rfl ?_
    refine P_getfN (i := 5) d_CM_biggest_23 ok_Plane (by decide) L_CM_225 (fa hC 29 rfl) rfl ?_
    refine P_icmp_ge 82 d_CM_biggest_26 (by decide) (fun _ => ?_) (fun h => absurd (by decide) h)
    refine P_iload_n d_CM_biggest_82 rfl ?_
    exact P_iret d_CM_biggest_83 rfl (le_b rfl) (le_b rfl) ⟨rfl, rfl⟩
  · refine PM_of pn_CM_biggest (le_b rfl) ?_
    show PW _ _ _ _ _ _ (0, [(0, .ref 0), (1, .int 1)], [], w)
    refine P_iload_n d_CM_biggest_0 rfl ?_
    refine P_callS (M := M_CM_biggest) (pc := 1) (as := [.int 1]) d_CM_biggest_1 co_CM_isPart L_CM_136 sm_CM_isPart (z_CM_isPart_in  (a1 := 1) (by decide)) rfl ⟨by decide, by decide⟩ ⟨by decide, by decide⟩ (by decide) ?_ _ rfl
    rintro _ _ ⟨rfl, rfl⟩
    show PW _ _ _ _ _ _ (4, _, [.int 1], _)
    refine P_if_ne 9 d_CM_biggest_4 (by decide) (fun _ => ?_) (fun h => absurd h (by decide))
    refine P_bipush (v := (-2)) d_CM_biggest_9 (by decide) ?_
    refine P_istore_n d_CM_biggest_11 (by decide) rfl ?_
    refine P_lconst (v := 0) d_CM_biggest_12 (by decide) ?_
    refine P_lstore_n d_CM_biggest_13 (by decide) rfl ?_
    refine P_iconst (v := 0) d_CM_biggest_14 (by decide) ?_
    refine P_istore d_CM_biggest_15 (by decide) rfl ?_
    refine P_iload d_CM_biggest_17 rfl ?_
    refine P_aload_n d_CM_biggest_19 rfl ?_
    refine P_getf (i := 0) d_CM_biggest_20 ok_CM (by decide) L_CM_12 (fa hC 28 rfl) rfl ?_
    refine P_getfN (i := 5) d_CM_biggest_23 ok_Plane (by decide) L_CM_225 (fa hC 29 rfl) rfl ?_
    refine P_icmp_ge 82 d_CM_biggest_26 (by decide) (fun _ => ?_) (fun h => absurd (by decide) h)
    refine P_iload_n d_CM_biggest_82 rfl ?_
    exact P_iret d_CM_biggest_83 rfl (le_b rfl) (le_b rfl) ⟨rfl, rfl⟩
theorem z_CM_biggest_out {G : pG} {w : pW} (hC : Has cfL w.2) {a1 : Int32} (ho : ¬ (0 ≤ a1 ∧ a1 ≤ 1)) : PM G M_CM_biggest 1 0 0 [.ref 0, .int a1] w (fun r w' => r = some (.int (-1)) ∧ w' = w) := by
  refine PM_of pn_CM_biggest (le_b rfl) ?_
  show PW _ _ _ _ _ _ (0, [(0, .ref 0), (1, .int a1)], [], w)
  refine P_iload_n d_CM_biggest_0 rfl ?_
  refine P_callS (M := M_CM_biggest) (pc := 1) (as := [.int a1]) d_CM_biggest_1 co_CM_isPart L_CM_136 sm_CM_isPart (z_CM_isPart_out  ho) rfl ⟨by decide, by decide⟩ ⟨by decide, by decide⟩ (by decide) ?_ _ rfl
  rintro _ _ ⟨rfl, rfl⟩
  show PW _ _ _ _ _ _ (4, _, [.int 0], _)
  refine P_if_ne 9 d_CM_biggest_4 (by decide) (fun h => absurd (by decide) h) (fun _ => ?_)
  refine P_iconst (v := (-1)) d_CM_biggest_7 (by decide) ?_
  exact P_iret d_CM_biggest_8 rfl (le_b rfl) (le_b rfl) ⟨rfl, rfl⟩
theorem z_CM_biggest {G : pG} {w : pW} (hC : Has cfL w.2) (a1 : Int32) : PM G M_CM_biggest 1 0 0 [.ref 0, .int a1] w (fun r w' => r = some (.int (ff 0 1 (-2) (-1) a1)) ∧ w' = w) := by
  by_cases hr : 0 ≤ a1 ∧ a1 ≤ 1
  · rw [ff_in hr]; exact z_CM_biggest_in hC hr
  · rw [ff_out hr]; exact z_CM_biggest_out hC hr
theorem z_CM_kinds_in {G : pG} {w : pW} (hC : Has cfL w.2) {a1 : Int32} (ha : 0 ≤ a1 ∧ a1 ≤ 5) : PM G M_CM_kinds 1 0 0 [.ref 0, .int a1] w (fun r w' => r = some (.int 0) ∧ w' = w) := by
  rcases i_in05 ha with rfl | rfl | rfl | rfl | rfl | rfl
  · refine PM_of pn_CM_kinds (le_b rfl) ?_
    show PW _ _ _ _ _ _ (0, [(0, .ref 0), (1, .int 0)], [], w)
    refine P_iload_n d_CM_kinds_0 rfl ?_
    refine P_callS (M := M_CM_kinds) (pc := 1) (as := [.int 0]) d_CM_kinds_1 co_CM_isKind L_CM_385 sm_CM_isKind (z_CM_isKind_in  (a1 := 0) (by decide)) rfl ⟨by decide, by decide⟩ ⟨by decide, by decide⟩ (by decide) ?_ _ rfl
    rintro _ _ ⟨rfl, rfl⟩
    show PW _ _ _ _ _ _ (4, _, [.int 1], _)
    refine P_if_ne 9 d_CM_kinds_4 (by decide) (fun _ => ?_) (fun h => absurd h (by decide))
    refine P_iconst (v := 0) d_CM_kinds_9 (by decide) ?_
    refine P_istore_n d_CM_kinds_10 (by decide) rfl ?_
    refine P_iconst (v := 0) d_CM_kinds_11 (by decide) ?_
    refine P_istore_n d_CM_kinds_12 (by decide) rfl ?_
    refine P_iload_n d_CM_kinds_13 rfl ?_
    refine P_aload_n d_CM_kinds_14 rfl ?_
    refine P_getf (i := 0) d_CM_kinds_15 ok_CM (by decide) L_CM_12 (fa hC 28 rfl) rfl ?_
    refine P_getfN (i := 5) d_CM_kinds_18 ok_Plane (by decide) L_CM_225 (fa hC 29 rfl) rfl ?_
    refine P_icmp_ge 49 d_CM_kinds_21 (by decide) (fun _ => ?_) (fun h => absurd (by decide) h)
    refine P_iload_n d_CM_kinds_49 rfl ?_
    exact P_iret d_CM_kinds_50 rfl (le_b rfl) (le_b rfl) ⟨rfl, rfl⟩
  · refine PM_of pn_CM_kinds (le_b rfl) ?_
    show PW _ _ _ _ _ _ (0, [(0, .ref 0), (1, .int 1)], [], w)
    refine P_iload_n d_CM_kinds_0 rfl ?_
    refine P_callS (M := M_CM_kinds) (pc := 1) (as := [.int 1]) d_CM_kinds_1 co_CM_isKind L_CM_385 sm_CM_isKind (z_CM_isKind_in  (a1 := 1) (by decide)) rfl ⟨by decide, by decide⟩ ⟨by decide, by decide⟩ (by decide) ?_ _ rfl
    rintro _ _ ⟨rfl, rfl⟩
    show PW _ _ _ _ _ _ (4, _, [.int 1], _)
    refine P_if_ne 9 d_CM_kinds_4 (by decide) (fun _ => ?_) (fun h => absurd h (by decide))
    refine P_iconst (v := 0) d_CM_kinds_9 (by decide) ?_
    refine P_istore_n d_CM_kinds_10 (by decide) rfl ?_
    refine P_iconst (v := 0) d_CM_kinds_11 (by decide) ?_
    refine P_istore_n d_CM_kinds_12 (by decide) rfl ?_
    refine P_iload_n d_CM_kinds_13 rfl ?_
    refine P_aload_n d_CM_kinds_14 rfl ?_
    refine P_getf (i := 0) d_CM_kinds_15 ok_CM (by decide) L_CM_12 (fa hC 28 rfl) rfl ?_
    refine P_getfN (i := 5) d_CM_kinds_18 ok_Plane (by decide) L_CM_225 (fa hC 29 rfl) rfl ?_
    refine P_icmp_ge 49 d_CM_kinds_21 (by decide) (fun _ => ?_) (fun h => absurd (by decide) h)
    refine P_iload_n d_CM_kinds_49 rfl ?_
    exact P_iret d_CM_kinds_50 rfl (le_b rfl) (le_b rfl) ⟨rfl, rfl⟩
  · refine PM_of pn_CM_kinds (le_b rfl) ?_
    show PW _ _ _ _ _ _ (0, [(0, .ref 0), (1, .int 2)], [], w)
    refine P_iload_n d_CM_kinds_0 rfl ?_
    refine P_callS (M := M_CM_kinds) (pc := 1) (as := [.int 2]) d_CM_kinds_1 co_CM_isKind L_CM_385 sm_CM_isKind (z_CM_isKind_in  (a1 := 2) (by decide)) rfl ⟨by decide, by decide⟩ ⟨by decide, by decide⟩ (by decide) ?_ _ rfl
    rintro _ _ ⟨rfl, rfl⟩
    show PW _ _ _ _ _ _ (4, _, [.int 1], _)
    refine P_if_ne 9 d_CM_kinds_4 (by decide) (fun _ => ?_) (fun h => absurd h (by decide))
    refine P_iconst (v := 0) d_CM_kinds_9 (by decide) ?_
    refine P_istore_n d_CM_kinds_10 (by decide) rfl ?_
    refine P_iconst (v := 0) d_CM_kinds_11 (by decide) ?_
    refine P_istore_n d_CM_kinds_12 (by decide) rfl ?_
    refine P_iload_n d_CM_kinds_13 rfl ?_
    refine P_aload_n d_CM_kinds_14 rfl ?_
    refine P_getf (i := 0) d_CM_kinds_15 ok_CM (by decide) L_CM_12 (fa hC 28 rfl) rfl ?_
    refine P_getfN (i := 5) d_CM_kinds_18 ok_Plane (by decide) L_CM_225 (fa hC 29 rfl) rfl ?_
    refine P_icmp_ge 49 d_CM_kinds_21 (by decide) (fun _ => ?_) (fun h => absurd (by decide) h)
    refine P_iload_n d_CM_kinds_49 rfl ?_
    exact P_iret d_CM_kinds_50 rfl (le_b rfl) (le_b rfl) ⟨rfl, rfl⟩
  · refine PM_of pn_CM_kinds (le_b rfl) ?_
    show PW _ _ _ _ _ _ (0, [(0, .ref 0), (1, .int 3)], [], w)
    refine P_iload_n d_CM_kinds_0 rfl ?_
    refine P_callS (M := M_CM_kinds) (pc := 1) (as := [.int 3]) d_CM_kinds_1 co_CM_isKind L_CM_385 sm_CM_isKind (z_CM_isKind_in  (a1 := 3) (by decide)) rfl ⟨by decide, by decide⟩ ⟨by decide, by decide⟩ (by decide) ?_ _ rfl
    rintro _ _ ⟨rfl, rfl⟩
    show PW _ _ _ _ _ _ (4, _, [.int 1], _)
    refine P_if_ne 9 d_CM_kinds_4 (by decide) (fun _ => ?_) (fun h => absurd h (by decide))
    refine P_iconst (v := 0) d_CM_kinds_9 (by decide) ?_
    refine P_istore_n d_CM_kinds_10 (by decide) rfl ?_
    refine P_iconst (v := 0) d_CM_kinds_11 (by decide) ?_
    refine P_istore_n d_CM_kinds_12 (by decide) rfl ?_
    refine P_iload_n d_CM_kinds_13 rfl ?_
    refine P_aload_n d_CM_kinds_14 rfl ?_
    refine P_getf (i := 0) d_CM_kinds_15 ok_CM (by decide) L_CM_12 (fa hC 28 rfl) rfl ?_
    refine P_getfN (i := 5) d_CM_kinds_18 ok_Plane (by decide) L_CM_225 (fa hC 29 rfl) rfl ?_
    refine P_icmp_ge 49 d_CM_kinds_21 (by decide) (fun _ => ?_) (fun h => absurd (by decide) h)
    refine P_iload_n d_CM_kinds_49 rfl ?_
    exact P_iret d_CM_kinds_50 rfl (le_b rfl) (le_b rfl) ⟨rfl, rfl⟩
  · refine PM_of pn_CM_kinds (le_b rfl) ?_
    show PW _ _ _ _ _ _ (0, [(0, .ref 0), (1, .int 4)], [], w)
    refine P_iload_n d_CM_kinds_0 rfl ?_
    refine P_callS (M := M_CM_kinds) (pc := 1) (as := [.int 4]) d_CM_kinds_1 co_CM_isKind L_CM_385 sm_CM_isKind (z_CM_isKind_in  (a1 := 4) (by decide)) rfl ⟨by decide, by decide⟩ ⟨by decide, by decide⟩ (by decide) ?_ _ rfl
    rintro _ _ ⟨rfl, rfl⟩
    show PW _ _ _ _ _ _ (4, _, [.int 1], _)
    refine P_if_ne 9 d_CM_kinds_4 (by decide) (fun _ => ?_) (fun h => absurd h (by decide))
    refine P_iconst (v := 0) d_CM_kinds_9 (by decide) ?_
    refine P_istore_n d_CM_kinds_10 (by decide) rfl ?_
    refine P_iconst (v := 0) d_CM_kinds_11 (by decide) ?_
    refine P_istore_n d_CM_kinds_12 (by decide) rfl ?_
    refine P_iload_n d_CM_kinds_13 rfl ?_
    refine P_aload_n d_CM_kinds_14 rfl ?_
    refine P_getf (i := 0) d_CM_kinds_15 ok_CM (by decide) L_CM_12 (fa hC 28 rfl) rfl ?_
    refine P_getfN (i := 5) d_CM_kinds_18 ok_Plane (by decide) L_CM_225 (fa hC 29 rfl) rfl ?_
    refine P_icmp_ge 49 d_CM_kinds_21 (by decide) (fun _ => ?_) (fun h => absurd (by decide) h)
    refine P_iload_n d_CM_kinds_49 rfl ?_
    exact P_iret d_CM_kinds_50 rfl (le_b rfl) (le_b rfl) ⟨rfl, rfl⟩
  · refine PM_of pn_CM_kinds (le_b rfl) ?_
    show PW _ _ _ _ _ _ (0, [(0, .ref 0), (1, .int 5)], [], w)
    refine P_iload_n d_CM_kinds_0 rfl ?_
    refine P_callS (M := M_CM_kinds) (pc := 1) (as := [.int 5]) d_CM_kinds_1 co_CM_isKind L_CM_385 sm_CM_isKind (z_CM_isKind_in  (a1 := 5) (by decide)) rfl ⟨by decide, by decide⟩ ⟨by decide, by decide⟩ (by decide) ?_ _ rfl
    rintro _ _ ⟨rfl, rfl⟩
    show PW _ _ _ _ _ _ (4, _, [.int 1], _)
    refine P_if_ne 9 d_CM_kinds_4 (by decide) (fun _ => ?_) (fun h => absurd h (by decide))
    refine P_iconst (v := 0) d_CM_kinds_9 (by decide) ?_
    refine P_istore_n d_CM_kinds_10 (by decide) rfl ?_
    refine P_iconst (v := 0) d_CM_kinds_11 (by decide) ?_
    refine P_istore_n d_CM_kinds_12 (by decide) rfl ?_
    refine P_iload_n d_CM_kinds_13 rfl ?_
    refine P_aload_n d_CM_kinds_14 rfl ?_
    refine P_getf (i := 0) d_CM_kinds_15 ok_CM (by decide) L_CM_12 (fa hC 28 rfl) rfl ?_
    refine P_getfN (i := 5) d_CM_kinds_18 ok_Plane (by decide) L_CM_225 (fa hC 29 rfl) rfl ?_
    refine P_icmp_ge 49 d_CM_kinds_21 (by decide) (fun _ => ?_) (fun h => absurd (by decide) h)
    refine P_iload_n d_CM_kinds_49 rfl ?_
    exact P_iret d_CM_kinds_50 rfl (le_b rfl) (le_b rfl) ⟨rfl, rfl⟩
theorem z_CM_kinds_out {G : pG} {w : pW} (hC : Has cfL w.2) {a1 : Int32} (ho : ¬ (0 ≤ a1 ∧ a1 ≤ 5)) : PM G M_CM_kinds 1 0 0 [.ref 0, .int a1] w (fun r w' => r = some (.int (-1)) ∧ w' = w) := by
  refine PM_of pn_CM_kinds (le_b rfl) ?_
  show PW _ _ _ _ _ _ (0, [(0, .ref 0), (1, .int a1)], [], w)
  refine P_iload_n d_CM_kinds_0 rfl ?_
  refine P_callS (M := M_CM_kinds) (pc := 1) (as := [.int a1]) d_CM_kinds_1 co_CM_isKind L_CM_385 sm_CM_isKind (z_CM_isKind_out  ho) rfl ⟨by decide, by decide⟩ ⟨by decide, by decide⟩ (by decide) ?_ _ rfl
  rintro _ _ ⟨rfl, rfl⟩
  show PW _ _ _ _ _ _ (4, _, [.int 0], _)
  refine P_if_ne 9 d_CM_kinds_4 (by decide) (fun h => absurd (by decide) h) (fun _ => ?_)
  refine P_iconst (v := (-1)) d_CM_kinds_7 (by decide) ?_
  exact P_iret d_CM_kinds_8 rfl (le_b rfl) (le_b rfl) ⟨rfl, rfl⟩
theorem z_CM_kinds {G : pG} {w : pW} (hC : Has cfL w.2) (a1 : Int32) : PM G M_CM_kinds 1 0 0 [.ref 0, .int a1] w (fun r w' => r = some (.int (ff 0 5 0 (-1) a1)) ∧ w' = w) := by
  by_cases hr : 0 ≤ a1 ∧ a1 ≤ 5
  · rw [ff_in hr]; exact z_CM_kinds_in hC hr
  · rw [ff_out hr]; exact z_CM_kinds_out hC hr
theorem z_CM_pairs_in {G : pG} {w : pW} (hC : Has cfL w.2) {a1 : Int32} (ha : 0 ≤ a1 ∧ a1 ≤ 2) : PM G M_CM_pairs 1 0 0 [.ref 0, .int a1] w (fun r w' => r = some (.int 0) ∧ w' = w) := by
  rcases i_in02 ha with rfl | rfl | rfl
  · refine PM_of pn_CM_pairs (le_b rfl) ?_
    show PW _ _ _ _ _ _ (0, [(0, .ref 0), (1, .int 0)], [], w)
    refine P_iload_n d_CM_pairs_0 rfl ?_
    refine P_callS (M := M_CM_pairs) (pc := 1) (as := [.int 0]) d_CM_pairs_1 co_CM_isThird L_CM_154 sm_CM_isThird (z_CM_isThird_in  (a1 := 0) (by decide)) rfl ⟨by decide, by decide⟩ ⟨by decide, by decide⟩ (by decide) ?_ _ rfl
    rintro _ _ ⟨rfl, rfl⟩
    show PW _ _ _ _ _ _ (4, _, [.int 1], _)
    refine P_if_ne 9 d_CM_pairs_4 (by decide) (fun _ => ?_) (fun h => absurd h (by decide))
    refine P_iconst (v := 0) d_CM_pairs_9 (by decide) ?_
    refine P_istore_n d_CM_pairs_10 (by decide) rfl ?_
    refine P_iconst (v := 0) d_CM_pairs_11 (by decide) ?_
    refine P_istore_n d_CM_pairs_12 (by decide) rfl ?_
    refine P_iload_n d_CM_pairs_13 rfl ?_
    refine P_aload_n d_CM_pairs_14 rfl ?_
    refine P_getf (i := 0) d_CM_pairs_15 ok_CM (by decide) L_CM_12 (fa hC 28 rfl) rfl ?_
    refine P_getfN (i := 5) d_CM_pairs_18 ok_Plane (by decide) L_CM_225 (fa hC 29 rfl) rfl ?_
    refine P_icmp_ge 67 d_CM_pairs_21 (by decide) (fun _ => ?_) (fun h => absurd (by decide) h)
    refine P_iload_n d_CM_pairs_67 rfl ?_
    exact P_iret d_CM_pairs_68 rfl (le_b rfl) (le_b rfl) ⟨rfl, rfl⟩
  · refine PM_of pn_CM_pairs (le_b rfl) ?_
    show PW _ _ _ _ _ _ (0, [(0, .ref 0), (1, .int 1)], [], w)
    refine P_iload_n d_CM_pairs_0 rfl ?_
    refine P_callS (M := M_CM_pairs) (pc := 1) (as := [.int 1]) d_CM_pairs_1 co_CM_isThird L_CM_154 sm_CM_isThird (z_CM_isThird_in  (a1 := 1) (by decide)) rfl ⟨by decide, by decide⟩ ⟨by decide, by decide⟩ (by decide) ?_ _ rfl
    rintro _ _ ⟨rfl, rfl⟩
    show PW _ _ _ _ _ _ (4, _, [.int 1], _)
    refine P_if_ne 9 d_CM_pairs_4 (by decide) (fun _ => ?_) (fun h => absurd h (by decide))
    refine P_iconst (v := 0) d_CM_pairs_9 (by decide) ?_
    refine P_istore_n d_CM_pairs_10 (by decide) rfl ?_
    refine P_iconst (v := 0) d_CM_pairs_11 (by decide) ?_
    refine P_istore_n d_CM_pairs_12 (by decide) rfl ?_
    refine P_iload_n d_CM_pairs_13 rfl ?_
    refine P_aload_n d_CM_pairs_14 rfl ?_
    refine P_getf (i := 0) d_CM_pairs_15 ok_CM (by decide) L_CM_12 (fa hC 28 rfl) rfl ?_
    refine P_getfN (i := 5) d_CM_pairs_18 ok_Plane (by decide) L_CM_225 (fa hC 29 rfl) rfl ?_
    refine P_icmp_ge 67 d_CM_pairs_21 (by decide) (fun _ => ?_) (fun h => absurd (by decide) h)
    refine P_iload_n d_CM_pairs_67 rfl ?_
    exact P_iret d_CM_pairs_68 rfl (le_b rfl) (le_b rfl) ⟨rfl, rfl⟩
  · refine PM_of pn_CM_pairs (le_b rfl) ?_
    show PW _ _ _ _ _ _ (0, [(0, .ref 0), (1, .int 2)], [], w)
    refine P_iload_n d_CM_pairs_0 rfl ?_
    refine P_callS (M := M_CM_pairs) (pc := 1) (as := [.int 2]) d_CM_pairs_1 co_CM_isThird L_CM_154 sm_CM_isThird (z_CM_isThird_in  (a1 := 2) (by decide)) rfl ⟨by decide, by decide⟩ ⟨by decide, by decide⟩ (by decide) ?_ _ rfl
    rintro _ _ ⟨rfl, rfl⟩
    show PW _ _ _ _ _ _ (4, _, [.int 1], _)
    refine P_if_ne 9 d_CM_pairs_4 (by decide) (fun _ => ?_) (fun h => absurd h (by decide))
    refine P_iconst (v := 0) d_CM_pairs_9 (by decide) ?_
    refine P_istore_n d_CM_pairs_10 (by decide) rfl ?_
    refine P_iconst (v := 0) d_CM_pairs_11 (by decide) ?_
    refine P_istore_n d_CM_pairs_12 (by decide) rfl ?_
    refine P_iload_n d_CM_pairs_13 rfl ?_
    refine P_aload_n d_CM_pairs_14 rfl ?_
    refine P_getf (i := 0) d_CM_pairs_15 ok_CM (by decide) L_CM_12 (fa hC 28 rfl) rfl ?_
    refine P_getfN (i := 5) d_CM_pairs_18 ok_Plane (by decide) L_CM_225 (fa hC 29 rfl) rfl ?_
    refine P_icmp_ge 67 d_CM_pairs_21 (by decide) (fun _ => ?_) (fun h => absurd (by decide) h)
    refine P_iload_n d_CM_pairs_67 rfl ?_
    exact P_iret d_CM_pairs_68 rfl (le_b rfl) (le_b rfl) ⟨rfl, rfl⟩
theorem z_CM_pairs_out {G : pG} {w : pW} (hC : Has cfL w.2) {a1 : Int32} (ho : ¬ (0 ≤ a1 ∧ a1 ≤ 2)) : PM G M_CM_pairs 1 0 0 [.ref 0, .int a1] w (fun r w' => r = some (.int (-1)) ∧ w' = w) := by
  refine PM_of pn_CM_pairs (le_b rfl) ?_
  show PW _ _ _ _ _ _ (0, [(0, .ref 0), (1, .int a1)], [], w)
  refine P_iload_n d_CM_pairs_0 rfl ?_
  refine P_callS (M := M_CM_pairs) (pc := 1) (as := [.int a1]) d_CM_pairs_1 co_CM_isThird L_CM_154 sm_CM_isThird (z_CM_isThird_out  ho) rfl ⟨by decide, by decide⟩ ⟨by decide, by decide⟩ (by decide) ?_ _ rfl
  rintro _ _ ⟨rfl, rfl⟩
  show PW _ _ _ _ _ _ (4, _, [.int 0], _)
  refine P_if_ne 9 d_CM_pairs_4 (by decide) (fun h => absurd (by decide) h) (fun _ => ?_)
  refine P_iconst (v := (-1)) d_CM_pairs_7 (by decide) ?_
  exact P_iret d_CM_pairs_8 rfl (le_b rfl) (le_b rfl) ⟨rfl, rfl⟩
theorem z_CM_pairs {G : pG} {w : pW} (hC : Has cfL w.2) (a1 : Int32) : PM G M_CM_pairs 1 0 0 [.ref 0, .int a1] w (fun r w' => r = some (.int (ff 0 2 0 (-1) a1)) ∧ w' = w) := by
  by_cases hr : 0 ≤ a1 ∧ a1 ≤ 2
  · rw [ff_in hr]; exact z_CM_pairs_in hC hr
  · rw [ff_out hr]; exact z_CM_pairs_out hC hr
theorem z_MD_fault_in {G : pG} {w : pW} (hM : Has mfL w.2) {a1 : Int32} (ha : 0 ≤ a1 ∧ a1 ≤ 0) : PM G M_MD_fault 0 0 0 [.ref 467, .int a1] w (fun r w' => r = some (.int 0) ∧ w' = w) := by
  rcases i_in00 ha with rfl
  · refine PM_of pn_MD_fault (le_b rfl) ?_
    show PW _ _ _ _ _ _ (0, [(0, .ref 467), (1, .int 0)], [], w)
    refine P_aload_n d_MD_fault_0 rfl ?_
    refine P_iconst (v := 0) d_MD_fault_1 (by decide) ?_
    refine P_putS (i := 0) d_MD_fault_2 ok_Model (by decide) rfl L_MD_74 (fa hM 18 rfl) (fun _ => rfl) (fun _ => rfl) rfl ?_
    refine P_iload_n d_MD_fault_5 rfl ?_
    refine P_if_ne 16 d_MD_fault_6 (by decide) (fun h => absurd (by decide) h) (fun _ => ?_)
    refine P_aload_n d_MD_fault_9 rfl ?_
    refine P_getf (i := 23) d_MD_fault_10 ok_Model (by decide) L_MD_201 (fa hM 18 rfl) rfl ?_
    refine P_goto 29 d_MD_fault_13 (by decide) ?_
    exact P_iret d_MD_fault_29 rfl (le_b rfl) (le_b rfl) ⟨rfl, rfl⟩
theorem z_MD_fault_out {G : pG} {w : pW} (hM : Has mfL w.2) {a1 : Int32} (ho : ¬ (0 ≤ a1 ∧ a1 ≤ 0)) : PM G M_MD_fault 0 0 0 [.ref 467, .int a1] w (fun r w' => r = some (.int (-1)) ∧ w' = w) := by
  refine PM_of pn_MD_fault (le_b rfl) ?_
  show PW _ _ _ _ _ _ (0, [(0, .ref 467), (1, .int a1)], [], w)
  refine P_aload_n d_MD_fault_0 rfl ?_
  refine P_iconst (v := 0) d_MD_fault_1 (by decide) ?_
  refine P_putS (i := 0) d_MD_fault_2 ok_Model (by decide) rfl L_MD_74 (fa hM 18 rfl) (fun _ => rfl) (fun _ => rfl) rfl ?_
  refine P_iload_n d_MD_fault_5 rfl ?_
  refine P_if_ne 16 d_MD_fault_6 (by decide) (fun c1 => ?_) (fun c1 => by exfalso; simp only [Int32.lt_iff_toInt_lt, Int32.le_iff_toInt_le, ← Int32.toInt_inj, Int32.reduceToInt] at ho c1; omega)
  refine P_iload_n d_MD_fault_16 rfl ?_
  refine P_iconst (v := 1) d_MD_fault_17 (by decide) ?_
  refine P_icmp_ne 28 d_MD_fault_18 (by decide) (fun c2 => ?_) (fun c2 => ?_)
  · refine P_iconst (v := (-1)) d_MD_fault_28 (by decide) ?_
    exact P_iret d_MD_fault_29 rfl (le_b rfl) (le_b rfl) ⟨rfl, rfl⟩
  · refine P_aload_n d_MD_fault_21 rfl ?_
    refine P_getf (i := 24) d_MD_fault_22 ok_Model (by decide) L_MD_37 (fa hM 18 rfl) rfl ?_
    refine P_goto 29 d_MD_fault_25 (by decide) ?_
    exact P_iret d_MD_fault_29 rfl (le_b rfl) (le_b rfl) ⟨rfl, rfl⟩
theorem z_MD_fault {G : pG} {w : pW} (hM : Has mfL w.2) (a1 : Int32) : PM G M_MD_fault 0 0 0 [.ref 467, .int a1] w (fun r w' => r = some (.int (ff 0 0 0 (-1) a1)) ∧ w' = w) := by
  by_cases hr : 0 ≤ a1 ∧ a1 ≤ 0
  · rw [ff_in hr]; exact z_MD_fault_in hM hr
  · rw [ff_out hr]; exact z_MD_fault_out hM hr
theorem z_MD_biggest_in {G : pG} {w : pW} (hM : Has mfL w.2) {a1 : Int32} (ha : 0 ≤ a1 ∧ a1 ≤ 1) : PM G M_MD_biggest 0 0 0 [.ref 467, .int a1] w (fun r w' => r = some (.int (-2)) ∧ w' = w) := by
  rcases i_in01 ha with rfl | rfl
  · refine PM_of pn_MD_biggest (le_b rfl) ?_
    show PW _ _ _ _ _ _ (0, [(0, .ref 467), (1, .int 0)], [], w)
    refine P_aload_n d_MD_biggest_0 rfl ?_
    refine P_iconst (v := 0) d_MD_biggest_1 (by decide) ?_
    refine P_putS (i := 0) d_MD_biggest_2 ok_Model (by decide) rfl L_MD_74 (fa hM 18 rfl) (fun _ => rfl) (fun _ => rfl) rfl ?_
    refine P_iload_n d_MD_biggest_5 rfl ?_
    refine P_if_lt 14 d_MD_biggest_6 (by decide) (fun h => absurd h (by decide)) (fun _ => ?_)
    refine P_iload_n d_MD_biggest_9 rfl ?_
    refine P_iconst (v := 1) d_MD_biggest_10 (by decide) ?_
    refine P_icmp_le 16 d_MD_biggest_11 (by decide) (fun _ => ?_) (fun h => absurd (by decide) h)
    refine P_bipush (v := (-2)) d_MD_biggest_16 (by decide) ?_
    refine P_istore_n d_MD_biggest_18 (by decide) rfl ?_
    refine P_iconst (v := 0) d_MD_biggest_19 (by decide) ?_
    refine P_istore_n d_MD_biggest_20 (by decide) rfl ?_
    refine P_iload_n d_MD_biggest_21 rfl ?_
    refine P_i2l d_MD_biggest_22 ?_
    refine P_aload_n d_MD_biggest_23 rfl ?_
    refine P_getf (i := 7) d_MD_biggest_24 ok_Model (by decide) L_MD_21 (fa hM 18 rfl) rfl ?_
    refine P_sipush (v := 168) d_MD_biggest_27 (by decide) ?_
    refine P_lald (j := 168) d_MD_biggest_30 (fa hM 3 rfl) ⟨by decide, by decide⟩ (by decide) ?_
    refine P_lcmp d_MD_biggest_31 ?_
    refine P_if_ge 89 d_MD_biggest_32 (by decide) (fun _ => ?_) (fun h => absurd (by decide) h)
    refine P_iload_n d_MD_biggest_89 rfl ?_
    exact P_iret d_MD_biggest_90 rfl (le_b rfl) (le_b rfl) ⟨rfl, rfl⟩
  · refine PM_of pn_MD_biggest (le_b rfl) ?_
    show PW _ _ _ _ _ _ (0, [(0, .ref 467), (1, .int 1)], [], w)
    refine P_aload_n d_MD_biggest_0 rfl ?_
    refine P_iconst (v := 0) d_MD_biggest_1 (by decide) ?_
    refine P_putS (i := 0) d_MD_biggest_2 ok_Model (by decide) rfl L_MD_74 (fa hM 18 rfl) (fun _ => rfl) (fun _ => rfl) rfl ?_
    refine P_iload_n d_MD_biggest_5 rfl ?_
    refine P_if_lt 14 d_MD_biggest_6 (by decide) (fun h => absurd h (by decide)) (fun _ => ?_)
    refine P_iload_n d_MD_biggest_9 rfl ?_
    refine P_iconst (v := 1) d_MD_biggest_10 (by decide) ?_
    refine P_icmp_le 16 d_MD_biggest_11 (by decide) (fun _ => ?_) (fun h => absurd (by decide) h)
    refine P_bipush (v := (-2)) d_MD_biggest_16 (by decide) ?_
    refine P_istore_n d_MD_biggest_18 (by decide) rfl ?_
    refine P_iconst (v := 0) d_MD_biggest_19 (by decide) ?_
    refine P_istore_n d_MD_biggest_20 (by decide) rfl ?_
    refine P_iload_n d_MD_biggest_21 rfl ?_
    refine P_i2l d_MD_biggest_22 ?_
    refine P_aload_n d_MD_biggest_23 rfl ?_
    refine P_getf (i := 7) d_MD_biggest_24 ok_Model (by decide) L_MD_21 (fa hM 18 rfl) rfl ?_
    refine P_sipush (v := 168) d_MD_biggest_27 (by decide) ?_
    refine P_lald (j := 168) d_MD_biggest_30 (fa hM 3 rfl) ⟨by decide, by decide⟩ (by decide) ?_
    refine P_lcmp d_MD_biggest_31 ?_
    refine P_if_ge 89 d_MD_biggest_32 (by decide) (fun _ => ?_) (fun h => absurd (by decide) h)
    refine P_iload_n d_MD_biggest_89 rfl ?_
    exact P_iret d_MD_biggest_90 rfl (le_b rfl) (le_b rfl) ⟨rfl, rfl⟩
theorem z_MD_biggest_out {G : pG} {w : pW} (hM : Has mfL w.2) {a1 : Int32} (ho : ¬ (0 ≤ a1 ∧ a1 ≤ 1)) : PM G M_MD_biggest 0 0 0 [.ref 467, .int a1] w (fun r w' => r = some (.int (-1)) ∧ w' = w) := by
  refine PM_of pn_MD_biggest (le_b rfl) ?_
  show PW _ _ _ _ _ _ (0, [(0, .ref 467), (1, .int a1)], [], w)
  refine P_aload_n d_MD_biggest_0 rfl ?_
  refine P_iconst (v := 0) d_MD_biggest_1 (by decide) ?_
  refine P_putS (i := 0) d_MD_biggest_2 ok_Model (by decide) rfl L_MD_74 (fa hM 18 rfl) (fun _ => rfl) (fun _ => rfl) rfl ?_
  refine P_iload_n d_MD_biggest_5 rfl ?_
  refine P_if_lt 14 d_MD_biggest_6 (by decide) (fun c1 => ?_) (fun c1 => ?_)
  · refine P_iconst (v := (-1)) d_MD_biggest_14 (by decide) ?_
    exact P_iret d_MD_biggest_15 rfl (le_b rfl) (le_b rfl) ⟨rfl, rfl⟩
  · refine P_iload_n d_MD_biggest_9 rfl ?_
    refine P_iconst (v := 1) d_MD_biggest_10 (by decide) ?_
    refine P_icmp_le 16 d_MD_biggest_11 (by decide) (fun c2 => by exfalso; simp only [Int32.lt_iff_toInt_lt, Int32.le_iff_toInt_le, ← Int32.toInt_inj, Int32.reduceToInt] at ho c1 c2; omega) (fun c2 => ?_)
    refine P_iconst (v := (-1)) d_MD_biggest_14 (by decide) ?_
    exact P_iret d_MD_biggest_15 rfl (le_b rfl) (le_b rfl) ⟨rfl, rfl⟩
theorem z_MD_biggest {G : pG} {w : pW} (hM : Has mfL w.2) (a1 : Int32) : PM G M_MD_biggest 0 0 0 [.ref 467, .int a1] w (fun r w' => r = some (.int (ff 0 1 (-2) (-1) a1)) ∧ w' = w) := by
  by_cases hr : 0 ≤ a1 ∧ a1 ≤ 1
  · rw [ff_in hr]; exact z_MD_biggest_in hM hr
  · rw [ff_out hr]; exact z_MD_biggest_out hM hr
theorem z_MD_kinds_in {G : pG} {w : pW} (hM : Has mfL w.2) {a1 : Int32} (ha : 0 ≤ a1 ∧ a1 ≤ 5) : PM G M_MD_kinds 0 0 0 [.ref 467, .int a1] w (fun r w' => r = some (.int 0) ∧ w' = w) := by
  rcases i_in05 ha with rfl | rfl | rfl | rfl | rfl | rfl
  · refine PM_of pn_MD_kinds (le_b rfl) ?_
    show PW _ _ _ _ _ _ (0, [(0, .ref 467), (1, .int 0)], [], w)
    refine P_aload_n d_MD_kinds_0 rfl ?_
    refine P_iconst (v := 0) d_MD_kinds_1 (by decide) ?_
    refine P_putS (i := 0) d_MD_kinds_2 ok_Model (by decide) rfl L_MD_74 (fa hM 18 rfl) (fun _ => rfl) (fun _ => rfl) rfl ?_
    refine P_iload_n d_MD_kinds_5 rfl ?_
    refine P_if_lt 14 d_MD_kinds_6 (by decide) (fun h => absurd h (by decide)) (fun _ => ?_)
    refine P_iload_n d_MD_kinds_9 rfl ?_
    refine P_iconst (v := 5) d_MD_kinds_10 (by decide) ?_
    refine P_icmp_le 16 d_MD_kinds_11 (by decide) (fun _ => ?_) (fun h => absurd (by decide) h)
    refine P_iconst (v := 0) d_MD_kinds_16 (by decide) ?_
    refine P_istore_n d_MD_kinds_17 (by decide) rfl ?_
    refine P_iconst (v := 0) d_MD_kinds_18 (by decide) ?_
    refine P_istore_n d_MD_kinds_19 (by decide) rfl ?_
    refine P_iload_n d_MD_kinds_20 rfl ?_
    refine P_i2l d_MD_kinds_21 ?_
    refine P_aload_n d_MD_kinds_22 rfl ?_
    refine P_getf (i := 7) d_MD_kinds_23 ok_Model (by decide) L_MD_21 (fa hM 18 rfl) rfl ?_
    refine P_sipush (v := 168) d_MD_kinds_26 (by decide) ?_
    refine P_lald (j := 168) d_MD_kinds_29 (fa hM 3 rfl) ⟨by decide, by decide⟩ (by decide) ?_
    refine P_lcmp d_MD_kinds_30 ?_
    refine P_if_ge 65 d_MD_kinds_31 (by decide) (fun _ => ?_) (fun h => absurd (by decide) h)
    refine P_iload_n d_MD_kinds_65 rfl ?_
    exact P_iret d_MD_kinds_66 rfl (le_b rfl) (le_b rfl) ⟨rfl, rfl⟩
  · refine PM_of pn_MD_kinds (le_b rfl) ?_
    show PW _ _ _ _ _ _ (0, [(0, .ref 467), (1, .int 1)], [], w)
    refine P_aload_n d_MD_kinds_0 rfl ?_
    refine P_iconst (v := 0) d_MD_kinds_1 (by decide) ?_
    refine P_putS (i := 0) d_MD_kinds_2 ok_Model (by decide) rfl L_MD_74 (fa hM 18 rfl) (fun _ => rfl) (fun _ => rfl) rfl ?_
    refine P_iload_n d_MD_kinds_5 rfl ?_
    refine P_if_lt 14 d_MD_kinds_6 (by decide) (fun h => absurd h (by decide)) (fun _ => ?_)
    refine P_iload_n d_MD_kinds_9 rfl ?_
    refine P_iconst (v := 5) d_MD_kinds_10 (by decide) ?_
    refine P_icmp_le 16 d_MD_kinds_11 (by decide) (fun _ => ?_) (fun h => absurd (by decide) h)
    refine P_iconst (v := 0) d_MD_kinds_16 (by decide) ?_
    refine P_istore_n d_MD_kinds_17 (by decide) rfl ?_
    refine P_iconst (v := 0) d_MD_kinds_18 (by decide) ?_
    refine P_istore_n d_MD_kinds_19 (by decide) rfl ?_
    refine P_iload_n d_MD_kinds_20 rfl ?_
    refine P_i2l d_MD_kinds_21 ?_
    refine P_aload_n d_MD_kinds_22 rfl ?_
    refine P_getf (i := 7) d_MD_kinds_23 ok_Model (by decide) L_MD_21 (fa hM 18 rfl) rfl ?_
    refine P_sipush (v := 168) d_MD_kinds_26 (by decide) ?_
    refine P_lald (j := 168) d_MD_kinds_29 (fa hM 3 rfl) ⟨by decide, by decide⟩ (by decide) ?_
    refine P_lcmp d_MD_kinds_30 ?_
    refine P_if_ge 65 d_MD_kinds_31 (by decide) (fun _ => ?_) (fun h => absurd (by decide) h)
    refine P_iload_n d_MD_kinds_65 rfl ?_
    exact P_iret d_MD_kinds_66 rfl (le_b rfl) (le_b rfl) ⟨rfl, rfl⟩
  · refine PM_of pn_MD_kinds (le_b rfl) ?_
    show PW _ _ _ _ _ _ (0, [(0, .ref 467), (1, .int 2)], [], w)
    refine P_aload_n d_MD_kinds_0 rfl ?_
    refine P_iconst (v := 0) d_MD_kinds_1 (by decide) ?_
    refine P_putS (i := 0) d_MD_kinds_2 ok_Model (by decide) rfl L_MD_74 (fa hM 18 rfl) (fun _ => rfl) (fun _ => rfl) rfl ?_
    refine P_iload_n d_MD_kinds_5 rfl ?_
    refine P_if_lt 14 d_MD_kinds_6 (by decide) (fun h => absurd h (by decide)) (fun _ => ?_)
    refine P_iload_n d_MD_kinds_9 rfl ?_
    refine P_iconst (v := 5) d_MD_kinds_10 (by decide) ?_
    refine P_icmp_le 16 d_MD_kinds_11 (by decide) (fun _ => ?_) (fun h => absurd (by decide) h)
    refine P_iconst (v := 0) d_MD_kinds_16 (by decide) ?_
    refine P_istore_n d_MD_kinds_17 (by decide) rfl ?_
    refine P_iconst (v := 0) d_MD_kinds_18 (by decide) ?_
    refine P_istore_n d_MD_kinds_19 (by decide) rfl ?_
    refine P_iload_n d_MD_kinds_20 rfl ?_
    refine P_i2l d_MD_kinds_21 ?_
    refine P_aload_n d_MD_kinds_22 rfl ?_
    refine P_getf (i := 7) d_MD_kinds_23 ok_Model (by decide) L_MD_21 (fa hM 18 rfl) rfl ?_
    refine P_sipush (v := 168) d_MD_kinds_26 (by decide) ?_
    refine P_lald (j := 168) d_MD_kinds_29 (fa hM 3 rfl) ⟨by decide, by decide⟩ (by decide) ?_
    refine P_lcmp d_MD_kinds_30 ?_
    refine P_if_ge 65 d_MD_kinds_31 (by decide) (fun _ => ?_) (fun h => absurd (by decide) h)
    refine P_iload_n d_MD_kinds_65 rfl ?_
    exact P_iret d_MD_kinds_66 rfl (le_b rfl) (le_b rfl) ⟨rfl, rfl⟩
  · refine PM_of pn_MD_kinds (le_b rfl) ?_
    show PW _ _ _ _ _ _ (0, [(0, .ref 467), (1, .int 3)], [], w)
    refine P_aload_n d_MD_kinds_0 rfl ?_
    refine P_iconst (v := 0) d_MD_kinds_1 (by decide) ?_
    refine P_putS (i := 0) d_MD_kinds_2 ok_Model (by decide) rfl L_MD_74 (fa hM 18 rfl) (fun _ => rfl) (fun _ => rfl) rfl ?_
    refine P_iload_n d_MD_kinds_5 rfl ?_
    refine P_if_lt 14 d_MD_kinds_6 (by decide) (fun h => absurd h (by decide)) (fun _ => ?_)
    refine P_iload_n d_MD_kinds_9 rfl ?_
    refine P_iconst (v := 5) d_MD_kinds_10 (by decide) ?_
    refine P_icmp_le 16 d_MD_kinds_11 (by decide) (fun _ => ?_) (fun h => absurd (by decide) h)
    refine P_iconst (v := 0) d_MD_kinds_16 (by decide) ?_
    refine P_istore_n d_MD_kinds_17 (by decide) rfl ?_
    refine P_iconst (v := 0) d_MD_kinds_18 (by decide) ?_
    refine P_istore_n d_MD_kinds_19 (by decide) rfl ?_
    refine P_iload_n d_MD_kinds_20 rfl ?_
    refine P_i2l d_MD_kinds_21 ?_
    refine P_aload_n d_MD_kinds_22 rfl ?_
    refine P_getf (i := 7) d_MD_kinds_23 ok_Model (by decide) L_MD_21 (fa hM 18 rfl) rfl ?_
    refine P_sipush (v := 168) d_MD_kinds_26 (by decide) ?_
    refine P_lald (j := 168) d_MD_kinds_29 (fa hM 3 rfl) ⟨by decide, by decide⟩ (by decide) ?_
    refine P_lcmp d_MD_kinds_30 ?_
    refine P_if_ge 65 d_MD_kinds_31 (by decide) (fun _ => ?_) (fun h => absurd (by decide) h)
    refine P_iload_n d_MD_kinds_65 rfl ?_
    exact P_iret d_MD_kinds_66 rfl (le_b rfl) (le_b rfl) ⟨rfl, rfl⟩
  · refine PM_of pn_MD_kinds (le_b rfl) ?_
    show PW _ _ _ _ _ _ (0, [(0, .ref 467), (1, .int 4)], [], w)
    refine P_aload_n d_MD_kinds_0 rfl ?_
    refine P_iconst (v := 0) d_MD_kinds_1 (by decide) ?_
    refine P_putS (i := 0) d_MD_kinds_2 ok_Model (by decide) rfl L_MD_74 (fa hM 18 rfl) (fun _ => rfl) (fun _ => rfl) rfl ?_
    refine P_iload_n d_MD_kinds_5 rfl ?_
    refine P_if_lt 14 d_MD_kinds_6 (by decide) (fun h => absurd h (by decide)) (fun _ => ?_)
    refine P_iload_n d_MD_kinds_9 rfl ?_
    refine P_iconst (v := 5) d_MD_kinds_10 (by decide) ?_
    refine P_icmp_le 16 d_MD_kinds_11 (by decide) (fun _ => ?_) (fun h => absurd (by decide) h)
    refine P_iconst (v := 0) d_MD_kinds_16 (by decide) ?_
    refine P_istore_n d_MD_kinds_17 (by decide) rfl ?_
    refine P_iconst (v := 0) d_MD_kinds_18 (by decide) ?_
    refine P_istore_n d_MD_kinds_19 (by decide) rfl ?_
    refine P_iload_n d_MD_kinds_20 rfl ?_
    refine P_i2l d_MD_kinds_21 ?_
    refine P_aload_n d_MD_kinds_22 rfl ?_
    refine P_getf (i := 7) d_MD_kinds_23 ok_Model (by decide) L_MD_21 (fa hM 18 rfl) rfl ?_
    refine P_sipush (v := 168) d_MD_kinds_26 (by decide) ?_
    refine P_lald (j := 168) d_MD_kinds_29 (fa hM 3 rfl) ⟨by decide, by decide⟩ (by decide) ?_
    refine P_lcmp d_MD_kinds_30 ?_
    refine P_if_ge 65 d_MD_kinds_31 (by decide) (fun _ => ?_) (fun h => absurd (by decide) h)
    refine P_iload_n d_MD_kinds_65 rfl ?_
    exact P_iret d_MD_kinds_66 rfl (le_b rfl) (le_b rfl) ⟨rfl, rfl⟩
  · refine PM_of pn_MD_kinds (le_b rfl) ?_
    show PW _ _ _ _ _ _ (0, [(0, .ref 467), (1, .int 5)], [], w)
    refine P_aload_n d_MD_kinds_0 rfl ?_
    refine P_iconst (v := 0) d_MD_kinds_1 (by decide) ?_
    refine P_putS (i := 0) d_MD_kinds_2 ok_Model (by decide) rfl L_MD_74 (fa hM 18 rfl) (fun _ => rfl) (fun _ => rfl) rfl ?_
    refine P_iload_n d_MD_kinds_5 rfl ?_
    refine P_if_lt 14 d_MD_kinds_6 (by decide) (fun h => absurd h (by decide)) (fun _ => ?_)
    refine P_iload_n d_MD_kinds_9 rfl ?_
    refine P_iconst (v := 5) d_MD_kinds_10 (by decide) ?_
    refine P_icmp_le 16 d_MD_kinds_11 (by decide) (fun _ => ?_) (fun h => absurd (by decide) h)
    refine P_iconst (v := 0) d_MD_kinds_16 (by decide) ?_
    refine P_istore_n d_MD_kinds_17 (by decide) rfl ?_
    refine P_iconst (v := 0) d_MD_kinds_18 (by decide) ?_
    refine P_istore_n d_MD_kinds_19 (by decide) rfl ?_
    refine P_iload_n d_MD_kinds_20 rfl ?_
    refine P_i2l d_MD_kinds_21 ?_
    refine P_aload_n d_MD_kinds_22 rfl ?_
    refine P_getf (i := 7) d_MD_kinds_23 ok_Model (by decide) L_MD_21 (fa hM 18 rfl) rfl ?_
    refine P_sipush (v := 168) d_MD_kinds_26 (by decide) ?_
    refine P_lald (j := 168) d_MD_kinds_29 (fa hM 3 rfl) ⟨by decide, by decide⟩ (by decide) ?_
    refine P_lcmp d_MD_kinds_30 ?_
    refine P_if_ge 65 d_MD_kinds_31 (by decide) (fun _ => ?_) (fun h => absurd (by decide) h)
    refine P_iload_n d_MD_kinds_65 rfl ?_
    exact P_iret d_MD_kinds_66 rfl (le_b rfl) (le_b rfl) ⟨rfl, rfl⟩
theorem z_MD_kinds_out {G : pG} {w : pW} (hM : Has mfL w.2) {a1 : Int32} (ho : ¬ (0 ≤ a1 ∧ a1 ≤ 5)) : PM G M_MD_kinds 0 0 0 [.ref 467, .int a1] w (fun r w' => r = some (.int (-1)) ∧ w' = w) := by
  refine PM_of pn_MD_kinds (le_b rfl) ?_
  show PW _ _ _ _ _ _ (0, [(0, .ref 467), (1, .int a1)], [], w)
  refine P_aload_n d_MD_kinds_0 rfl ?_
  refine P_iconst (v := 0) d_MD_kinds_1 (by decide) ?_
  refine P_putS (i := 0) d_MD_kinds_2 ok_Model (by decide) rfl L_MD_74 (fa hM 18 rfl) (fun _ => rfl) (fun _ => rfl) rfl ?_
  refine P_iload_n d_MD_kinds_5 rfl ?_
  refine P_if_lt 14 d_MD_kinds_6 (by decide) (fun c1 => ?_) (fun c1 => ?_)
  · refine P_iconst (v := (-1)) d_MD_kinds_14 (by decide) ?_
    exact P_iret d_MD_kinds_15 rfl (le_b rfl) (le_b rfl) ⟨rfl, rfl⟩
  · refine P_iload_n d_MD_kinds_9 rfl ?_
    refine P_iconst (v := 5) d_MD_kinds_10 (by decide) ?_
    refine P_icmp_le 16 d_MD_kinds_11 (by decide) (fun c2 => by exfalso; simp only [Int32.lt_iff_toInt_lt, Int32.le_iff_toInt_le, ← Int32.toInt_inj, Int32.reduceToInt] at ho c1 c2; omega) (fun c2 => ?_)
    refine P_iconst (v := (-1)) d_MD_kinds_14 (by decide) ?_
    exact P_iret d_MD_kinds_15 rfl (le_b rfl) (le_b rfl) ⟨rfl, rfl⟩
theorem z_MD_kinds {G : pG} {w : pW} (hM : Has mfL w.2) (a1 : Int32) : PM G M_MD_kinds 0 0 0 [.ref 467, .int a1] w (fun r w' => r = some (.int (ff 0 5 0 (-1) a1)) ∧ w' = w) := by
  by_cases hr : 0 ≤ a1 ∧ a1 ≤ 5
  · rw [ff_in hr]; exact z_MD_kinds_in hM hr
  · rw [ff_out hr]; exact z_MD_kinds_out hM hr
theorem z_MD_pairs_in {G : pG} {w : pW} (hM : Has mfL w.2) {a1 : Int32} (ha : 0 ≤ a1 ∧ a1 ≤ 2) : PM G M_MD_pairs 0 0 0 [.ref 467, .int a1] w (fun r w' => r = some (.int 0) ∧ w' = w) := by
  rcases i_in02 ha with rfl | rfl | rfl
  · refine PM_of pn_MD_pairs (le_b rfl) ?_
    show PW _ _ _ _ _ _ (0, [(0, .ref 467), (1, .int 0)], [], w)
    refine P_aload_n d_MD_pairs_0 rfl ?_
    refine P_iconst (v := 0) d_MD_pairs_1 (by decide) ?_
    refine P_putS (i := 0) d_MD_pairs_2 ok_Model (by decide) rfl L_MD_74 (fa hM 18 rfl) (fun _ => rfl) (fun _ => rfl) rfl ?_
    refine P_iload_n d_MD_pairs_5 rfl ?_
    refine P_if_lt 14 d_MD_pairs_6 (by decide) (fun h => absurd h (by decide)) (fun _ => ?_)
    refine P_iload_n d_MD_pairs_9 rfl ?_
    refine P_iconst (v := 2) d_MD_pairs_10 (by decide) ?_
    refine P_icmp_le 16 d_MD_pairs_11 (by decide) (fun _ => ?_) (fun h => absurd (by decide) h)
    refine P_iconst (v := 0) d_MD_pairs_16 (by decide) ?_
    refine P_istore_n d_MD_pairs_17 (by decide) rfl ?_
    refine P_iconst (v := 0) d_MD_pairs_18 (by decide) ?_
    refine P_istore_n d_MD_pairs_19 (by decide) rfl ?_
    refine P_iload_n d_MD_pairs_20 rfl ?_
    refine P_i2l d_MD_pairs_21 ?_
    refine P_aload_n d_MD_pairs_22 rfl ?_
    refine P_getf (i := 7) d_MD_pairs_23 ok_Model (by decide) L_MD_21 (fa hM 18 rfl) rfl ?_
    refine P_sipush (v := 168) d_MD_pairs_26 (by decide) ?_
    refine P_lald (j := 168) d_MD_pairs_29 (fa hM 3 rfl) ⟨by decide, by decide⟩ (by decide) ?_
    refine P_lcmp d_MD_pairs_30 ?_
    refine P_if_ge 85 d_MD_pairs_31 (by decide) (fun _ => ?_) (fun h => absurd (by decide) h)
    refine P_iload_n d_MD_pairs_85 rfl ?_
    exact P_iret d_MD_pairs_86 rfl (le_b rfl) (le_b rfl) ⟨rfl, rfl⟩
  · refine PM_of pn_MD_pairs (le_b rfl) ?_
    show PW _ _ _ _ _ _ (0, [(0, .ref 467), (1, .int 1)], [], w)
    refine P_aload_n d_MD_pairs_0 rfl ?_
    refine P_iconst (v := 0) d_MD_pairs_1 (by decide) ?_
    refine P_putS (i := 0) d_MD_pairs_2 ok_Model (by decide) rfl L_MD_74 (fa hM 18 rfl) (fun _ => rfl) (fun _ => rfl) rfl ?_
    refine P_iload_n d_MD_pairs_5 rfl ?_
    refine P_if_lt 14 d_MD_pairs_6 (by decide) (fun h => absurd h (by decide)) (fun _ => ?_)
    refine P_iload_n d_MD_pairs_9 rfl ?_
    refine P_iconst (v := 2) d_MD_pairs_10 (by decide) ?_
    refine P_icmp_le 16 d_MD_pairs_11 (by decide) (fun _ => ?_) (fun h => absurd (by decide) h)
    refine P_iconst (v := 0) d_MD_pairs_16 (by decide) ?_
    refine P_istore_n d_MD_pairs_17 (by decide) rfl ?_
    refine P_iconst (v := 0) d_MD_pairs_18 (by decide) ?_
    refine P_istore_n d_MD_pairs_19 (by decide) rfl ?_
    refine P_iload_n d_MD_pairs_20 rfl ?_
    refine P_i2l d_MD_pairs_21 ?_
    refine P_aload_n d_MD_pairs_22 rfl ?_
    refine P_getf (i := 7) d_MD_pairs_23 ok_Model (by decide) L_MD_21 (fa hM 18 rfl) rfl ?_
    refine P_sipush (v := 168) d_MD_pairs_26 (by decide) ?_
    refine P_lald (j := 168) d_MD_pairs_29 (fa hM 3 rfl) ⟨by decide, by decide⟩ (by decide) ?_
    refine P_lcmp d_MD_pairs_30 ?_
    refine P_if_ge 85 d_MD_pairs_31 (by decide) (fun _ => ?_) (fun h => absurd (by decide) h)
    refine P_iload_n d_MD_pairs_85 rfl ?_
    exact P_iret d_MD_pairs_86 rfl (le_b rfl) (le_b rfl) ⟨rfl, rfl⟩
  · refine PM_of pn_MD_pairs (le_b rfl) ?_
    show PW _ _ _ _ _ _ (0, [(0, .ref 467), (1, .int 2)], [], w)
    refine P_aload_n d_MD_pairs_0 rfl ?_
    refine P_iconst (v := 0) d_MD_pairs_1 (by decide) ?_
    refine P_putS (i := 0) d_MD_pairs_2 ok_Model (by decide) rfl L_MD_74 (fa hM 18 rfl) (fun _ => rfl) (fun _ => rfl) rfl ?_
    refine P_iload_n d_MD_pairs_5 rfl ?_
    refine P_if_lt 14 d_MD_pairs_6 (by decide) (fun h => absurd h (by decide)) (fun _ => ?_)
    refine P_iload_n d_MD_pairs_9 rfl ?_
    refine P_iconst (v := 2) d_MD_pairs_10 (by decide) ?_
    refine P_icmp_le 16 d_MD_pairs_11 (by decide) (fun _ => ?_) (fun h => absurd (by decide) h)
    refine P_iconst (v := 0) d_MD_pairs_16 (by decide) ?_
    refine P_istore_n d_MD_pairs_17 (by decide) rfl ?_
    refine P_iconst (v := 0) d_MD_pairs_18 (by decide) ?_
    refine P_istore_n d_MD_pairs_19 (by decide) rfl ?_
    refine P_iload_n d_MD_pairs_20 rfl ?_
    refine P_i2l d_MD_pairs_21 ?_
    refine P_aload_n d_MD_pairs_22 rfl ?_
    refine P_getf (i := 7) d_MD_pairs_23 ok_Model (by decide) L_MD_21 (fa hM 18 rfl) rfl ?_
    refine P_sipush (v := 168) d_MD_pairs_26 (by decide) ?_
    refine P_lald (j := 168) d_MD_pairs_29 (fa hM 3 rfl) ⟨by decide, by decide⟩ (by decide) ?_
    refine P_lcmp d_MD_pairs_30 ?_
    refine P_if_ge 85 d_MD_pairs_31 (by decide) (fun _ => ?_) (fun h => absurd (by decide) h)
    refine P_iload_n d_MD_pairs_85 rfl ?_
    exact P_iret d_MD_pairs_86 rfl (le_b rfl) (le_b rfl) ⟨rfl, rfl⟩
theorem z_MD_pairs_out {G : pG} {w : pW} (hM : Has mfL w.2) {a1 : Int32} (ho : ¬ (0 ≤ a1 ∧ a1 ≤ 2)) : PM G M_MD_pairs 0 0 0 [.ref 467, .int a1] w (fun r w' => r = some (.int (-1)) ∧ w' = w) := by
  refine PM_of pn_MD_pairs (le_b rfl) ?_
  show PW _ _ _ _ _ _ (0, [(0, .ref 467), (1, .int a1)], [], w)
  refine P_aload_n d_MD_pairs_0 rfl ?_
  refine P_iconst (v := 0) d_MD_pairs_1 (by decide) ?_
  refine P_putS (i := 0) d_MD_pairs_2 ok_Model (by decide) rfl L_MD_74 (fa hM 18 rfl) (fun _ => rfl) (fun _ => rfl) rfl ?_
  refine P_iload_n d_MD_pairs_5 rfl ?_
  refine P_if_lt 14 d_MD_pairs_6 (by decide) (fun c1 => ?_) (fun c1 => ?_)
  · refine P_iconst (v := (-1)) d_MD_pairs_14 (by decide) ?_
    exact P_iret d_MD_pairs_15 rfl (le_b rfl) (le_b rfl) ⟨rfl, rfl⟩
  · refine P_iload_n d_MD_pairs_9 rfl ?_
    refine P_iconst (v := 2) d_MD_pairs_10 (by decide) ?_
    refine P_icmp_le 16 d_MD_pairs_11 (by decide) (fun c2 => by exfalso; simp only [Int32.lt_iff_toInt_lt, Int32.le_iff_toInt_le, ← Int32.toInt_inj, Int32.reduceToInt] at ho c1 c2; omega) (fun c2 => ?_)
    refine P_iconst (v := (-1)) d_MD_pairs_14 (by decide) ?_
    exact P_iret d_MD_pairs_15 rfl (le_b rfl) (le_b rfl) ⟨rfl, rfl⟩
theorem z_MD_pairs {G : pG} {w : pW} (hM : Has mfL w.2) (a1 : Int32) : PM G M_MD_pairs 0 0 0 [.ref 467, .int a1] w (fun r w' => r = some (.int (ff 0 2 0 (-1) a1)) ∧ w' = w) := by
  by_cases hr : 0 ≤ a1 ∧ a1 ≤ 2
  · rw [ff_in hr]; exact z_MD_pairs_in hM hr
  · rw [ff_out hr]; exact z_MD_pairs_out hM hr
theorem z_Pairs_fill {G : pG} {w : pW} (hC : Has cfL w.2) : PM G M_Pairs_fill 0 0 0 [.ref 189, .ref 1] w (fun r w' => r = none ∧ w' = w) := by
  refine PM_of pn_Pairs_fill (le_b rfl) ?_
  show PW _ _ _ _ _ _ (0, [(0, .ref 189), (1, .ref 1)], [], w)
  refine P_aload_n d_Pairs_fill_0 rfl ?_
  refine P_aload_n d_Pairs_fill_1 rfl ?_
  refine P_getfN (i := 5) d_Pairs_fill_2 ok_Plane (by decide) L_Pairs_16 (fa hC 29 rfl) rfl ?_
  refine P_putS (i := 1) d_Pairs_fill_5 ok_Pairs (by decide) rfl L_Pairs_22 (fa hC 15 rfl) (fun _ => rfl) (fun _ => rfl) rfl ?_
  refine P_aload_n d_Pairs_fill_8 rfl ?_
  refine P_aload_n d_Pairs_fill_9 rfl ?_
  refine P_getf (i := 1) d_Pairs_fill_10 ok_Pairs (by decide) L_Pairs_22 (fa hC 15 rfl) rfl ?_
  refine P_aload_n d_Pairs_fill_13 rfl ?_
  refine P_getf (i := 1) d_Pairs_fill_14 ok_Pairs (by decide) L_Pairs_22 (fa hC 15 rfl) rfl ?_
  refine P_imul d_Pairs_fill_17 ?_
  refine P_putS (i := 2) d_Pairs_fill_18 ok_Pairs (by decide) rfl L_Pairs_25 (fa hC 15 rfl) (fun _ => rfl) (fun _ => rfl) rfl ?_
  refine P_iconst (v := 0) d_Pairs_fill_21 (by decide) ?_
  refine P_istore_n d_Pairs_fill_22 (by decide) rfl ?_
  refine P_iload_n d_Pairs_fill_23 rfl ?_
  refine P_aload_n d_Pairs_fill_24 rfl ?_
  refine P_getf (i := 1) d_Pairs_fill_25 ok_Pairs (by decide) L_Pairs_22 (fa hC 15 rfl) rfl ?_
  refine P_icmp_ge 81 d_Pairs_fill_28 (by decide) (fun _ => ?_) (fun h => absurd (by decide) h)
  exact P_vret d_Pairs_fill_81 rfl (le_b rfl) (le_b rfl) ⟨rfl, rfl⟩
theorem z_Plane_finitePoints {G : pG} {w : pW} (hC : Has cfL w.2) : PM G M_Plane_finitePoints 0 0 0 [.ref 1] w (fun r w' => r = some (.int 0) ∧ w' = w) := by
  refine PM_of pn_Plane_finitePoints (le_b rfl) ?_
  show PW _ _ _ _ _ _ (0, [(0, .ref 1)], [], w)
  refine P_iconst (v := 0) d_Plane_finitePoints_0 (by decide) ?_
  refine P_istore_n d_Plane_finitePoints_1 (by decide) rfl ?_
  refine P_iconst (v := 0) d_Plane_finitePoints_2 (by decide) ?_
  refine P_istore_n d_Plane_finitePoints_3 (by decide) rfl ?_
  refine P_iload_n d_Plane_finitePoints_4 rfl ?_
  refine P_aload_n d_Plane_finitePoints_5 rfl ?_
  refine P_getf (i := 6) d_Plane_finitePoints_6 ok_Plane (by decide) L_Plane_36 (fa hC 29 rfl) rfl ?_
  refine P_icmp_ge 33 d_Plane_finitePoints_9 (by decide) (fun _ => ?_) (fun h => absurd (by decide) h)
  refine P_iload_n d_Plane_finitePoints_33 rfl ?_
  exact P_iret d_Plane_finitePoints_34 rfl (le_b rfl) (le_b rfl) ⟨rfl, rfl⟩
theorem z_MD_finite {G : pG} {w : pW} (hM : Has mfL w.2) : PM G M_MD_finite 0 0 0 [.ref 467] w (fun r w' => r = some (.int 0) ∧ w' = w) := by
  refine PM_of pn_MD_finite (le_b rfl) ?_
  show PW _ _ _ _ _ _ (0, [(0, .ref 467)], [], w)
  refine P_iconst (v := 0) d_MD_finite_0 (by decide) ?_
  refine P_istore_n d_MD_finite_1 (by decide) rfl ?_
  refine P_iconst (v := 0) d_MD_finite_2 (by decide) ?_
  refine P_istore_n d_MD_finite_3 (by decide) rfl ?_
  refine P_iload_n d_MD_finite_4 rfl ?_
  refine P_i2l d_MD_finite_5 ?_
  refine P_aload_n d_MD_finite_6 rfl ?_
  refine P_getf (i := 7) d_MD_finite_7 ok_Model (by decide) L_MD_21 (fa hM 18 rfl) rfl ?_
  refine P_sipush (v := 169) d_MD_finite_10 (by decide) ?_
  refine P_lald (j := 169) d_MD_finite_13 (fa hM 3 rfl) ⟨by decide, by decide⟩ (by decide) ?_
  refine P_lcmp d_MD_finite_14 ?_
  refine P_if_ge 43 d_MD_finite_15 (by decide) (fun _ => ?_) (fun h => absurd (by decide) h)
  refine P_iload_n d_MD_finite_43 rfl ?_
  exact P_iret d_MD_finite_44 rfl (le_b rfl) (le_b rfl) ⟨rfl, rfl⟩
theorem z_CM_generated_in {G : pG} {w : pW} (hC : Has cfL w.2) {a1 : Int32} (ha : 1 ≤ a1 ∧ a1 ≤ 2) : PM G M_CM_generated 1 0 0 [.ref 0, .int a1] w (fun r w' => r = some (.int 0) ∧ w' = w) := by
  rcases i_in12 ha with rfl | rfl
  · refine PM_of pn_CM_generated (le_b rfl) ?_
    show PW _ _ _ _ _ _ (0, [(0, .ref 0), (1, .int 1)], [], w)
    refine P_iload_n d_CM_generated_0 rfl ?_
    refine P_iconst (v := 1) d_CM_generated_1 (by decide) ?_
    refine P_icmp_eq 12 d_CM_generated_2 (by decide) (fun _ => ?_) (fun h => absurd (by decide) h)
    refine P_iload_n d_CM_generated_12 rfl ?_
    refine P_iconst (v := 2) d_CM_generated_13 (by decide) ?_
    refine P_icmp_ne 28 d_CM_generated_14 (by decide) (fun _ => ?_) (fun h => absurd h (by decide))
    refine P_aload_n d_CM_generated_28 rfl ?_
    refine P_getf (i := 0) d_CM_generated_29 ok_CM (by decide) L_CM_12 (fa hC 28 rfl) rfl ?_
    refine P_getfN (i := 5) d_CM_generated_32 ok_Plane (by decide) L_CM_225 (fa hC 29 rfl) rfl ?_
    refine P_iload_n d_CM_generated_35 rfl ?_
    refine P_iconst (v := 2) d_CM_generated_36 (by decide) ?_
    refine P_icmp_ne 50 d_CM_generated_37 (by decide) (fun _ => ?_) (fun h => absurd h (by decide))
    refine P_iconst (v := 0) d_CM_generated_50 (by decide) ?_
    refine P_iadd d_CM_generated_51 ?_
    refine P_istore_n d_CM_generated_52 (by decide) rfl ?_
    refine P_iconst (v := 0) d_CM_generated_53 (by decide) ?_
    refine P_istore_n d_CM_generated_54 (by decide) rfl ?_
    refine P_iconst (v := 0) d_CM_generated_55 (by decide) ?_
    refine P_istore d_CM_generated_56 (by decide) rfl ?_
    refine P_iload d_CM_generated_58 rfl ?_
    refine P_iload_n d_CM_generated_60 rfl ?_
    refine P_icmp_ge 82 d_CM_generated_61 (by decide) (fun _ => ?_) (fun h => absurd (by decide) h)
    refine P_iload_n d_CM_generated_82 rfl ?_
    exact P_iret d_CM_generated_83 rfl (le_b rfl) (le_b rfl) ⟨rfl, rfl⟩
  · refine PM_of pn_CM_generated (le_b rfl) ?_
    show PW _ _ _ _ _ _ (0, [(0, .ref 0), (1, .int 2)], [], w)
    refine P_iload_n d_CM_generated_0 rfl ?_
    refine P_iconst (v := 1) d_CM_generated_1 (by decide) ?_
    refine P_icmp_eq 12 d_CM_generated_2 (by decide) (fun h => absurd h (by decide)) (fun _ => ?_)
    refine P_iload_n d_CM_generated_5 rfl ?_
    refine P_iconst (v := 2) d_CM_generated_6 (by decide) ?_
    refine P_icmp_eq 12 d_CM_generated_7 (by decide) (fun _ => ?_) (fun h => absurd (by decide) h)
    refine P_iload_n d_CM_generated_12 rfl ?_
    refine P_iconst (v := 2) d_CM_generated_13 (by decide) ?_
    refine P_icmp_ne 28 d_CM_generated_14 (by decide) (fun h => absurd (by decide) h) (fun _ => ?_)
    refine P_aload_n d_CM_generated_17 rfl ?_
    refine P_getf (i := 6) d_CM_generated_18 ok_CM (by decide) L_CM_54 (fa hC 28 rfl) rfl ?_
    refine P_aload_n d_CM_generated_21 rfl ?_
    refine P_getf (i := 0) d_CM_generated_22 ok_CM (by decide) L_CM_12 (fa hC 28 rfl) rfl ?_
    refine P_callV (M := M_CM_generated) (pc := 25) (as := [.ref 1]) (b := 189) d_CM_generated_25 co_Pairs_fill ok_Pairs (fa hC 15 rfl) L_CM_391 im_Pairs_fill se_Pairs_fill (z_Pairs_fill hC) rfl ⟨by decide, by decide⟩ ⟨by decide, by decide⟩ (by decide) ?_ _ rfl
    rintro _ _ ⟨rfl, rfl⟩
    show PW _ _ _ _ _ _ (28, _, [], _)
    refine P_aload_n d_CM_generated_28 rfl ?_
    refine P_getf (i := 0) d_CM_generated_29 ok_CM (by decide) L_CM_12 (fa hC 28 rfl) rfl ?_
    refine P_getfN (i := 5) d_CM_generated_32 ok_Plane (by decide) L_CM_225 (fa hC 29 rfl) rfl ?_
    refine P_iload_n d_CM_generated_35 rfl ?_
    refine P_iconst (v := 2) d_CM_generated_36 (by decide) ?_
    refine P_icmp_ne 50 d_CM_generated_37 (by decide) (fun h => absurd (by decide) h) (fun _ => ?_)
    refine P_aload_n d_CM_generated_40 rfl ?_
    refine P_getf (i := 6) d_CM_generated_41 ok_CM (by decide) L_CM_54 (fa hC 28 rfl) rfl ?_
    refine P_getfN (i := 2) d_CM_generated_44 ok_Pairs (by decide) L_CM_394 (fa hC 15 rfl) rfl ?_
    refine P_goto 51 d_CM_generated_47 (by decide) ?_
    refine P_iadd d_CM_generated_51 ?_
    refine P_istore_n d_CM_generated_52 (by decide) rfl ?_
    refine P_iconst (v := 0) d_CM_generated_53 (by decide) ?_
    refine P_istore_n d_CM_generated_54 (by decide) rfl ?_
    refine P_iconst (v := 0) d_CM_generated_55 (by decide) ?_
    refine P_istore d_CM_generated_56 (by decide) rfl ?_
    refine P_iload d_CM_generated_58 rfl ?_
    refine P_iload_n d_CM_generated_60 rfl ?_
    refine P_icmp_ge 82 d_CM_generated_61 (by decide) (fun _ => ?_) (fun h => absurd (by decide) h)
    refine P_iload_n d_CM_generated_82 rfl ?_
    exact P_iret d_CM_generated_83 rfl (le_b rfl) (le_b rfl) ⟨rfl, rfl⟩
theorem z_CM_generated_out {G : pG} {w : pW} (hC : Has cfL w.2) {a1 : Int32} (ho : ¬ (1 ≤ a1 ∧ a1 ≤ 2)) : PM G M_CM_generated 1 0 0 [.ref 0, .int a1] w (fun r w' => r = some (.int (-1)) ∧ w' = w) := by
  refine PM_of pn_CM_generated (le_b rfl) ?_
  show PW _ _ _ _ _ _ (0, [(0, .ref 0), (1, .int a1)], [], w)
  refine P_iload_n d_CM_generated_0 rfl ?_
  refine P_iconst (v := 1) d_CM_generated_1 (by decide) ?_
  refine P_icmp_eq 12 d_CM_generated_2 (by decide) (fun c1 => by exfalso; simp only [Int32.lt_iff_toInt_lt, Int32.le_iff_toInt_le, ← Int32.toInt_inj, Int32.reduceToInt] at ho c1; omega) (fun c1 => ?_)
  refine P_iload_n d_CM_generated_5 rfl ?_
  refine P_iconst (v := 2) d_CM_generated_6 (by decide) ?_
  refine P_icmp_eq 12 d_CM_generated_7 (by decide) (fun c2 => by exfalso; simp only [Int32.lt_iff_toInt_lt, Int32.le_iff_toInt_le, ← Int32.toInt_inj, Int32.reduceToInt] at ho c1 c2; omega) (fun c2 => ?_)
  refine P_iconst (v := (-1)) d_CM_generated_10 (by decide) ?_
  exact P_iret d_CM_generated_11 rfl (le_b rfl) (le_b rfl) ⟨rfl, rfl⟩
theorem z_CM_generated {G : pG} {w : pW} (hC : Has cfL w.2) (a1 : Int32) : PM G M_CM_generated 1 0 0 [.ref 0, .int a1] w (fun r w' => r = some (.int (ff 1 2 0 (-1) a1)) ∧ w' = w) := by
  by_cases hr : 1 ≤ a1 ∧ a1 ≤ 2
  · rw [ff_in hr]; exact z_CM_generated_in hC hr
  · rw [ff_out hr]; exact z_CM_generated_out hC hr
theorem z_MD_generated_in {G : pG} {w : pW} (hM : Has mfL w.2) {a1 : Int32} (ha : 1 ≤ a1 ∧ a1 ≤ 2) : PM G M_MD_generated 0 0 0 [.ref 467, .int a1] w (fun r w' => r = some (.int 0) ∧ w' = w) := by
  rcases i_in12 ha with rfl | rfl
  · refine PM_of pn_MD_generated (le_b rfl) ?_
    show PW _ _ _ _ _ _ (0, [(0, .ref 467), (1, .int 1)], [], w)
    refine P_aload_n d_MD_generated_0 rfl ?_
    refine P_iconst (v := 0) d_MD_generated_1 (by decide) ?_
    refine P_putS (i := 0) d_MD_generated_2 ok_Model (by decide) rfl L_MD_74 (fa hM 18 rfl) (fun _ => rfl) (fun _ => rfl) rfl ?_
    refine P_iload_n d_MD_generated_5 rfl ?_
    refine P_iconst (v := 1) d_MD_generated_6 (by decide) ?_
    refine P_icmp_lt 15 d_MD_generated_7 (by decide) (fun h => absurd h (by decide)) (fun _ => ?_)
    refine P_iload_n d_MD_generated_10 rfl ?_
    refine P_iconst (v := 2) d_MD_generated_11 (by decide) ?_
    refine P_icmp_le 17 d_MD_generated_12 (by decide) (fun _ => ?_) (fun h => absurd (by decide) h)
    refine P_aload_n d_MD_generated_17 rfl ?_
    refine P_iconst (v := 0) d_MD_generated_18 (by decide) ?_
    refine P_putS (i := 35) d_MD_generated_19 ok_Model (by decide) rfl L_MD_432 (fa hM 18 rfl) (fun _ => rfl) (fun _ => rfl) rfl ?_
    refine P_iconst (v := 0) d_MD_generated_22 (by decide) ?_
    refine P_istore_n d_MD_generated_23 (by decide) rfl ?_
    refine P_iload_n d_MD_generated_24 rfl ?_
    refine P_i2l d_MD_generated_25 ?_
    refine P_aload_n d_MD_generated_26 rfl ?_
    refine P_getf (i := 7) d_MD_generated_27 ok_Model (by decide) L_MD_21 (fa hM 18 rfl) rfl ?_
    refine P_sipush (v := 168) d_MD_generated_30 (by decide) ?_
    refine P_lald (j := 168) d_MD_generated_33 (fa hM 3 rfl) ⟨by decide, by decide⟩ (by decide) ?_
    refine P_lcmp d_MD_generated_34 ?_
    refine P_if_ge 57 d_MD_generated_35 (by decide) (fun _ => ?_) (fun h => absurd (by decide) h)
    refine P_iconst (v := 0) d_MD_generated_57 (by decide) ?_
    refine P_istore_n d_MD_generated_58 (by decide) rfl ?_
    refine P_iload_n d_MD_generated_59 rfl ?_
    refine P_iconst (v := 2) d_MD_generated_60 (by decide) ?_
    refine P_icmp_ne 116 d_MD_generated_61 (by decide) (fun _ => ?_) (fun h => absurd h (by decide))
    refine P_aload_n d_MD_generated_116 rfl ?_
    refine P_getf (i := 35) d_MD_generated_117 ok_Model (by decide) L_MD_432 (fa hM 18 rfl) rfl ?_
    exact P_iret d_MD_generated_120 rfl (le_b rfl) (le_b rfl) ⟨rfl, rfl⟩
  · refine PM_of pn_MD_generated (le_b rfl) ?_
    show PW _ _ _ _ _ _ (0, [(0, .ref 467), (1, .int 2)], [], w)
    refine P_aload_n d_MD_generated_0 rfl ?_
    refine P_iconst (v := 0) d_MD_generated_1 (by decide) ?_
    refine P_putS (i := 0) d_MD_generated_2 ok_Model (by decide) rfl L_MD_74 (fa hM 18 rfl) (fun _ => rfl) (fun _ => rfl) rfl ?_
    refine P_iload_n d_MD_generated_5 rfl ?_
    refine P_iconst (v := 1) d_MD_generated_6 (by decide) ?_
    refine P_icmp_lt 15 d_MD_generated_7 (by decide) (fun h => absurd h (by decide)) (fun _ => ?_)
    refine P_iload_n d_MD_generated_10 rfl ?_
    refine P_iconst (v := 2) d_MD_generated_11 (by decide) ?_
    refine P_icmp_le 17 d_MD_generated_12 (by decide) (fun _ => ?_) (fun h => absurd (by decide) h)
    refine P_aload_n d_MD_generated_17 rfl ?_
    refine P_iconst (v := 0) d_MD_generated_18 (by decide) ?_
    refine P_putS (i := 35) d_MD_generated_19 ok_Model (by decide) rfl L_MD_432 (fa hM 18 rfl) (fun _ => rfl) (fun _ => rfl) rfl ?_
    refine P_iconst (v := 0) d_MD_generated_22 (by decide) ?_
    refine P_istore_n d_MD_generated_23 (by decide) rfl ?_
    refine P_iload_n d_MD_generated_24 rfl ?_
    refine P_i2l d_MD_generated_25 ?_
    refine P_aload_n d_MD_generated_26 rfl ?_
    refine P_getf (i := 7) d_MD_generated_27 ok_Model (by decide) L_MD_21 (fa hM 18 rfl) rfl ?_
    refine P_sipush (v := 168) d_MD_generated_30 (by decide) ?_
    refine P_lald (j := 168) d_MD_generated_33 (fa hM 3 rfl) ⟨by decide, by decide⟩ (by decide) ?_
    refine P_lcmp d_MD_generated_34 ?_
    refine P_if_ge 57 d_MD_generated_35 (by decide) (fun _ => ?_) (fun h => absurd (by decide) h)
    refine P_iconst (v := 0) d_MD_generated_57 (by decide) ?_
    refine P_istore_n d_MD_generated_58 (by decide) rfl ?_
    refine P_iload_n d_MD_generated_59 rfl ?_
    refine P_iconst (v := 2) d_MD_generated_60 (by decide) ?_
    refine P_icmp_ne 116 d_MD_generated_61 (by decide) (fun h => absurd (by decide) h) (fun _ => ?_)
    refine P_iload_n d_MD_generated_64 rfl ?_
    refine P_i2l d_MD_generated_65 ?_
    refine P_aload_n d_MD_generated_66 rfl ?_
    refine P_getf (i := 7) d_MD_generated_67 ok_Model (by decide) L_MD_21 (fa hM 18 rfl) rfl ?_
    refine P_sipush (v := 168) d_MD_generated_70 (by decide) ?_
    refine P_lald (j := 168) d_MD_generated_73 (fa hM 3 rfl) ⟨by decide, by decide⟩ (by decide) ?_
    refine P_lcmp d_MD_generated_74 ?_
    refine P_if_ge 116 d_MD_generated_75 (by decide) (fun _ => ?_) (fun h => absurd (by decide) h)
    refine P_aload_n d_MD_generated_116 rfl ?_
    refine P_getf (i := 35) d_MD_generated_117 ok_Model (by decide) L_MD_432 (fa hM 18 rfl) rfl ?_
    exact P_iret d_MD_generated_120 rfl (le_b rfl) (le_b rfl) ⟨rfl, rfl⟩
theorem z_MD_generated_out {G : pG} {w : pW} (hM : Has mfL w.2) {a1 : Int32} (ho : ¬ (1 ≤ a1 ∧ a1 ≤ 2)) : PM G M_MD_generated 0 0 0 [.ref 467, .int a1] w (fun r w' => r = some (.int (-1)) ∧ w' = w) := by
  refine PM_of pn_MD_generated (le_b rfl) ?_
  show PW _ _ _ _ _ _ (0, [(0, .ref 467), (1, .int a1)], [], w)
  refine P_aload_n d_MD_generated_0 rfl ?_
  refine P_iconst (v := 0) d_MD_generated_1 (by decide) ?_
  refine P_putS (i := 0) d_MD_generated_2 ok_Model (by decide) rfl L_MD_74 (fa hM 18 rfl) (fun _ => rfl) (fun _ => rfl) rfl ?_
  refine P_iload_n d_MD_generated_5 rfl ?_
  refine P_iconst (v := 1) d_MD_generated_6 (by decide) ?_
  refine P_icmp_lt 15 d_MD_generated_7 (by decide) (fun c1 => ?_) (fun c1 => ?_)
  · refine P_iconst (v := (-1)) d_MD_generated_15 (by decide) ?_
    exact P_iret d_MD_generated_16 rfl (le_b rfl) (le_b rfl) ⟨rfl, rfl⟩
  · refine P_iload_n d_MD_generated_10 rfl ?_
    refine P_iconst (v := 2) d_MD_generated_11 (by decide) ?_
    refine P_icmp_le 17 d_MD_generated_12 (by decide) (fun c2 => by exfalso; simp only [Int32.lt_iff_toInt_lt, Int32.le_iff_toInt_le, ← Int32.toInt_inj, Int32.reduceToInt] at ho c1 c2; omega) (fun c2 => ?_)
    refine P_iconst (v := (-1)) d_MD_generated_15 (by decide) ?_
    exact P_iret d_MD_generated_16 rfl (le_b rfl) (le_b rfl) ⟨rfl, rfl⟩
theorem z_MD_generated {G : pG} {w : pW} (hM : Has mfL w.2) (a1 : Int32) : PM G M_MD_generated 0 0 0 [.ref 467, .int a1] w (fun r w' => r = some (.int (ff 1 2 0 (-1) a1)) ∧ w' = w) := by
  by_cases hr : 1 ≤ a1 ∧ a1 ≤ 2
  · rw [ff_in hr]; exact z_MD_generated_in hM hr
  · rw [ff_out hr]; exact z_MD_generated_out hM hr
theorem z_CM_count_in {G : pG} {w : pW} (hC : Has cfL w.2) {a1 : Int32} (ha : 0 ≤ a1 ∧ a1 ≤ 6) : PM G M_CM_count 1 0 0 [.ref 0, .int a1] w (fun r w' => r = some (.int 0) ∧ w' = w) := by
  rcases i_in06 ha with rfl | rfl | rfl | rfl | rfl | rfl | rfl
  · refine PM_of pn_CM_count (le_b rfl) ?_
    show PW _ _ _ _ _ _ (0, [(0, .ref 0), (1, .int 0)], [], w)
    refine P_iload_n d_CM_count_0 rfl ?_
    refine P_tswIn 44 d_CM_count_1 (by decide) (by decide) rfl (by decide) ?_
    refine P_aload_n d_CM_count_44 rfl ?_
    refine P_getf (i := 0) d_CM_count_45 ok_CM (by decide) L_CM_12 (fa hC 28 rfl) rfl ?_
    refine P_getfN (i := 3) d_CM_count_48 ok_Plane (by decide) L_CM_118 (fa hC 29 rfl) rfl ?_
    exact P_iret d_CM_count_51 rfl (le_b rfl) (le_b rfl) ⟨rfl, rfl⟩
  · refine PM_of pn_CM_count (le_b rfl) ?_
    show PW _ _ _ _ _ _ (0, [(0, .ref 0), (1, .int 1)], [], w)
    refine P_iload_n d_CM_count_0 rfl ?_
    refine P_tswIn 52 d_CM_count_1 (by decide) (by decide) rfl (by decide) ?_
    refine P_aload_n d_CM_count_52 rfl ?_
    refine P_getf (i := 0) d_CM_count_53 ok_CM (by decide) L_CM_12 (fa hC 28 rfl) rfl ?_
    refine P_getfN (i := 4) d_CM_count_56 ok_Plane (by decide) L_CM_415 (fa hC 29 rfl) rfl ?_
    exact P_iret d_CM_count_59 rfl (le_b rfl) (le_b rfl) ⟨rfl, rfl⟩
  · refine PM_of pn_CM_count (le_b rfl) ?_
    show PW _ _ _ _ _ _ (0, [(0, .ref 0), (1, .int 2)], [], w)
    refine P_iload_n d_CM_count_0 rfl ?_
    refine P_tswIn 60 d_CM_count_1 (by decide) (by decide) rfl (by decide) ?_
    refine P_aload_n d_CM_count_60 rfl ?_
    refine P_getf (i := 0) d_CM_count_61 ok_CM (by decide) L_CM_12 (fa hC 28 rfl) rfl ?_
    refine P_getfN (i := 5) d_CM_count_64 ok_Plane (by decide) L_CM_225 (fa hC 29 rfl) rfl ?_
    exact P_iret d_CM_count_67 rfl (le_b rfl) (le_b rfl) ⟨rfl, rfl⟩
  · refine PM_of pn_CM_count (le_b rfl) ?_
    show PW _ _ _ _ _ _ (0, [(0, .ref 0), (1, .int 3)], [], w)
    refine P_iload_n d_CM_count_0 rfl ?_
    refine P_tswIn 68 d_CM_count_1 (by decide) (by decide) rfl (by decide) ?_
    refine P_aload_n d_CM_count_68 rfl ?_
    refine P_getf (i := 0) d_CM_count_69 ok_CM (by decide) L_CM_12 (fa hC 28 rfl) rfl ?_
    refine P_getfN (i := 6) d_CM_count_72 ok_Plane (by decide) L_CM_232 (fa hC 29 rfl) rfl ?_
    exact P_iret d_CM_count_75 rfl (le_b rfl) (le_b rfl) ⟨rfl, rfl⟩
  · refine PM_of pn_CM_count (le_b rfl) ?_
    show PW _ _ _ _ _ _ (0, [(0, .ref 0), (1, .int 4)], [], w)
    refine P_iload_n d_CM_count_0 rfl ?_
    refine P_tswIn 76 d_CM_count_1 (by decide) (by decide) rfl (by decide) ?_
    refine P_aload_n d_CM_count_76 rfl ?_
    refine P_getf (i := 0) d_CM_count_77 ok_CM (by decide) L_CM_12 (fa hC 28 rfl) rfl ?_
    refine P_callV (M := M_CM_count) (pc := 80) (as := []) (b := 1) d_CM_count_80 co_Plane_finitePoints ok_Plane (fa hC 29 rfl) L_CM_257 im_Plane_finitePoints se_Plane_finitePoints (z_Plane_finitePoints hC) rfl ⟨by decide, by decide⟩ ⟨by decide, by decide⟩ (by decide) ?_ _ rfl
    rintro _ _ ⟨rfl, rfl⟩
    show PW _ _ _ _ _ _ (83, _, [.int 0], _)
    exact P_iret d_CM_count_83 rfl (le_b rfl) (le_b rfl) ⟨rfl, rfl⟩
  · refine PM_of pn_CM_count (le_b rfl) ?_
    show PW _ _ _ _ _ _ (0, [(0, .ref 0), (1, .int 5)], [], w)
    refine P_iload_n d_CM_count_0 rfl ?_
    refine P_tswIn 84 d_CM_count_1 (by decide) (by decide) rfl (by decide) ?_
    refine P_aload_n d_CM_count_84 rfl ?_
    refine P_getf (i := 4) d_CM_count_85 ok_CM (by decide) L_CM_47 (fa hC 28 rfl) rfl ?_
    refine P_getfN (i := 4) d_CM_count_88 ok_Past (by decide) L_CM_260 (fa hC 13 rfl) rfl ?_
    exact P_iret d_CM_count_91 rfl (le_b rfl) (le_b rfl) ⟨rfl, rfl⟩
  · refine PM_of pn_CM_count (le_b rfl) ?_
    show PW _ _ _ _ _ _ (0, [(0, .ref 0), (1, .int 6)], [], w)
    refine P_iload_n d_CM_count_0 rfl ?_
    refine P_tswIn 92 d_CM_count_1 (by decide) (by decide) rfl (by decide) ?_
    refine P_aload_n d_CM_count_92 rfl ?_
    refine P_getf (i := 2) d_CM_count_93 ok_CM (by decide) L_CM_24 (fa hC 28 rfl) rfl ?_
    refine P_getfN (i := 1) d_CM_count_96 ok_Tape (by decide) L_CM_107 (fa hC 1 rfl) rfl ?_
    exact P_iret d_CM_count_99 rfl (le_b rfl) (le_b rfl) ⟨rfl, rfl⟩
theorem z_CM_count_out {G : pG} {w : pW} (hC : Has cfL w.2) {a1 : Int32} (ho : ¬ (0 ≤ a1 ∧ a1 ≤ 6)) : PM G M_CM_count 1 0 0 [.ref 0, .int a1] w (fun r w' => r = some (.int (-1)) ∧ w' = w) := by
  refine PM_of pn_CM_count (le_b rfl) ?_
  show PW _ _ _ _ _ _ (0, [(0, .ref 0), (1, .int a1)], [], w)
  refine P_iload_n d_CM_count_0 rfl ?_
  refine P_tswOut 100 d_CM_count_1 (i_outT ho) (by decide) ?_
  refine P_iconst (v := (-1)) d_CM_count_100 (by decide) ?_
  exact P_iret d_CM_count_101 rfl (le_b rfl) (le_b rfl) ⟨rfl, rfl⟩
theorem z_CM_count {G : pG} {w : pW} (hC : Has cfL w.2) (a1 : Int32) : PM G M_CM_count 1 0 0 [.ref 0, .int a1] w (fun r w' => r = some (.int (ff 0 6 0 (-1) a1)) ∧ w' = w) := by
  by_cases hr : 0 ≤ a1 ∧ a1 ≤ 6
  · rw [ff_in hr]; exact z_CM_count_in hC hr
  · rw [ff_out hr]; exact z_CM_count_out hC hr
theorem z_MD_count_in {G : pG} {w : pW} (hM : Has mfL w.2) {a1 : Int32} (ha : 0 ≤ a1 ∧ a1 ≤ 6) : PM G M_MD_count 1 0 0 [.ref 467, .int a1] w (fun r w' => r = some (.int 0) ∧ w' = w) := by
  rcases i_in06 ha with rfl | rfl | rfl | rfl | rfl | rfl | rfl
  · refine PM_of pn_MD_count (le_b rfl) ?_
    show PW _ _ _ _ _ _ (0, [(0, .ref 467), (1, .int 0)], [], w)
    refine P_aload_n d_MD_count_0 rfl ?_
    refine P_iconst (v := 0) d_MD_count_1 (by decide) ?_
    refine P_putS (i := 0) d_MD_count_2 ok_Model (by decide) rfl L_MD_74 (fa hM 18 rfl) (fun _ => rfl) (fun _ => rfl) rfl ?_
    refine P_iload_n d_MD_count_5 rfl ?_
    refine P_tswIn 48 d_MD_count_6 (by decide) (by decide) rfl (by decide) ?_
    refine P_aload_n d_MD_count_48 rfl ?_
    refine P_getf (i := 11) d_MD_count_49 ok_Model (by decide) L_MD_207 (fa hM 18 rfl) rfl ?_
    exact P_iret d_MD_count_52 rfl (le_b rfl) (le_b rfl) ⟨rfl, rfl⟩
  · refine PM_of pn_MD_count (le_b rfl) ?_
    show PW _ _ _ _ _ _ (0, [(0, .ref 467), (1, .int 1)], [], w)
    refine P_aload_n d_MD_count_0 rfl ?_
    refine P_iconst (v := 0) d_MD_count_1 (by decide) ?_
    refine P_putS (i := 0) d_MD_count_2 ok_Model (by decide) rfl L_MD_74 (fa hM 18 rfl) (fun _ => rfl) (fun _ => rfl) rfl ?_
    refine P_iload_n d_MD_count_5 rfl ?_
    refine P_tswIn 53 d_MD_count_6 (by decide) (by decide) rfl (by decide) ?_
    refine P_aload_n d_MD_count_53 rfl ?_
    refine P_getf (i := 5) d_MD_count_54 ok_Model (by decide) L_MD_204 (fa hM 18 rfl) rfl ?_
    exact P_iret d_MD_count_57 rfl (le_b rfl) (le_b rfl) ⟨rfl, rfl⟩
  · refine PM_of pn_MD_count (le_b rfl) ?_
    show PW _ _ _ _ _ _ (0, [(0, .ref 467), (1, .int 2)], [], w)
    refine P_aload_n d_MD_count_0 rfl ?_
    refine P_iconst (v := 0) d_MD_count_1 (by decide) ?_
    refine P_putS (i := 0) d_MD_count_2 ok_Model (by decide) rfl L_MD_74 (fa hM 18 rfl) (fun _ => rfl) (fun _ => rfl) rfl ?_
    refine P_iload_n d_MD_count_5 rfl ?_
    refine P_tswIn 58 d_MD_count_6 (by decide) (by decide) rfl (by decide) ?_
    refine P_aload_n d_MD_count_58 rfl ?_
    refine P_getf (i := 7) d_MD_count_59 ok_Model (by decide) L_MD_21 (fa hM 18 rfl) rfl ?_
    refine P_sipush (v := 168) d_MD_count_62 (by decide) ?_
    refine P_lald (j := 168) d_MD_count_65 (fa hM 3 rfl) ⟨by decide, by decide⟩ (by decide) ?_
    refine P_l2i d_MD_count_66 ?_
    exact P_iret d_MD_count_67 rfl (le_b rfl) (le_b rfl) ⟨rfl, rfl⟩
  · refine PM_of pn_MD_count (le_b rfl) ?_
    show PW _ _ _ _ _ _ (0, [(0, .ref 467), (1, .int 3)], [], w)
    refine P_aload_n d_MD_count_0 rfl ?_
    refine P_iconst (v := 0) d_MD_count_1 (by decide) ?_
    refine P_putS (i := 0) d_MD_count_2 ok_Model (by decide) rfl L_MD_74 (fa hM 18 rfl) (fun _ => rfl) (fun _ => rfl) rfl ?_
    refine P_iload_n d_MD_count_5 rfl ?_
    refine P_tswIn 68 d_MD_count_6 (by decide) (by decide) rfl (by decide) ?_
    refine P_aload_n d_MD_count_68 rfl ?_
    refine P_getf (i := 7) d_MD_count_69 ok_Model (by decide) L_MD_21 (fa hM 18 rfl) rfl ?_
    refine P_sipush (v := 169) d_MD_count_72 (by decide) ?_
    refine P_lald (j := 169) d_MD_count_75 (fa hM 3 rfl) ⟨by decide, by decide⟩ (by decide) ?_
    refine P_l2i d_MD_count_76 ?_
    exact P_iret d_MD_count_77 rfl (le_b rfl) (le_b rfl) ⟨rfl, rfl⟩
  · refine PM_of pn_MD_count (le_b rfl) ?_
    show PW _ _ _ _ _ _ (0, [(0, .ref 467), (1, .int 4)], [], w)
    refine P_aload_n d_MD_count_0 rfl ?_
    refine P_iconst (v := 0) d_MD_count_1 (by decide) ?_
    refine P_putS (i := 0) d_MD_count_2 ok_Model (by decide) rfl L_MD_74 (fa hM 18 rfl) (fun _ => rfl) (fun _ => rfl) rfl ?_
    refine P_iload_n d_MD_count_5 rfl ?_
    refine P_tswIn 78 d_MD_count_6 (by decide) (by decide) rfl (by decide) ?_
    refine P_aload_n d_MD_count_78 rfl ?_
    refine P_callV (M := M_MD_count) (pc := 79) (as := []) (b := 467) d_MD_count_79 co_MD_finite ok_Model (fa hM 18 rfl) L_MD_483 im_MD_finite se_MD_finite (z_MD_finite hM) rfl ⟨by decide, by decide⟩ ⟨by decide, by decide⟩ (by decide) ?_ _ rfl
    rintro _ _ ⟨rfl, rfl⟩
    show PW _ _ _ _ _ _ (82, _, [.int 0], _)
    exact P_iret d_MD_count_82 rfl (le_b rfl) (le_b rfl) ⟨rfl, rfl⟩
  · refine PM_of pn_MD_count (le_b rfl) ?_
    show PW _ _ _ _ _ _ (0, [(0, .ref 467), (1, .int 5)], [], w)
    refine P_aload_n d_MD_count_0 rfl ?_
    refine P_iconst (v := 0) d_MD_count_1 (by decide) ?_
    refine P_putS (i := 0) d_MD_count_2 ok_Model (by decide) rfl L_MD_74 (fa hM 18 rfl) (fun _ => rfl) (fun _ => rfl) rfl ?_
    refine P_iload_n d_MD_count_5 rfl ?_
    refine P_tswIn 83 d_MD_count_6 (by decide) (by decide) rfl (by decide) ?_
    refine P_aload_n d_MD_count_83 rfl ?_
    refine P_getf (i := 10) d_MD_count_84 ok_Model (by decide) L_MD_71 (fa hM 18 rfl) rfl ?_
    exact P_iret d_MD_count_87 rfl (le_b rfl) (le_b rfl) ⟨rfl, rfl⟩
  · refine PM_of pn_MD_count (le_b rfl) ?_
    show PW _ _ _ _ _ _ (0, [(0, .ref 467), (1, .int 6)], [], w)
    refine P_aload_n d_MD_count_0 rfl ?_
    refine P_iconst (v := 0) d_MD_count_1 (by decide) ?_
    refine P_putS (i := 0) d_MD_count_2 ok_Model (by decide) rfl L_MD_74 (fa hM 18 rfl) (fun _ => rfl) (fun _ => rfl) rfl ?_
    refine P_iload_n d_MD_count_5 rfl ?_
    refine P_tswIn 88 d_MD_count_6 (by decide) (by decide) rfl (by decide) ?_
    refine P_aload_n d_MD_count_88 rfl ?_
    refine P_getf (i := 2) d_MD_count_89 ok_Model (by decide) L_MD_77 (fa hM 18 rfl) rfl ?_
    exact P_iret d_MD_count_92 rfl (le_b rfl) (le_b rfl) ⟨rfl, rfl⟩
theorem z_MD_count_out {G : pG} {w : pW} (hM : Has mfL w.2) {a1 : Int32} (ho : ¬ (0 ≤ a1 ∧ a1 ≤ 6)) : PM G M_MD_count 1 0 0 [.ref 467, .int a1] w (fun r w' => r = some (.int (-1)) ∧ w' = w) := by
  refine PM_of pn_MD_count (le_b rfl) ?_
  show PW _ _ _ _ _ _ (0, [(0, .ref 467), (1, .int a1)], [], w)
  refine P_aload_n d_MD_count_0 rfl ?_
  refine P_iconst (v := 0) d_MD_count_1 (by decide) ?_
  refine P_putS (i := 0) d_MD_count_2 ok_Model (by decide) rfl L_MD_74 (fa hM 18 rfl) (fun _ => rfl) (fun _ => rfl) rfl ?_
  refine P_iload_n d_MD_count_5 rfl ?_
  refine P_tswOut 93 d_MD_count_6 (i_outT ho) (by decide) ?_
  refine P_iconst (v := (-1)) d_MD_count_93 (by decide) ?_
  exact P_iret d_MD_count_94 rfl (le_b rfl) (le_b rfl) ⟨rfl, rfl⟩
theorem z_MD_count {G : pG} {w : pW} (hM : Has mfL w.2) (a1 : Int32) : PM G M_MD_count 1 0 0 [.ref 467, .int a1] w (fun r w' => r = some (.int (ff 0 6 0 (-1) a1)) ∧ w' = w) := by
  by_cases hr : 0 ≤ a1 ∧ a1 ≤ 6
  · rw [ff_in hr]; exact z_MD_count_in hM hr
  · rw [ff_out hr]; exact z_MD_count_out hM hr
