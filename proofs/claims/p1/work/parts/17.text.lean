/-! feed and text on new objects (by program) -/
theorem upd_same (f : Nat → Int32) (j : Nat) : upd f j (f j) = f := by
  funext i
  unfold upd
  split
  · rename_i h; rw [h]
  · rfl
theorem updL_same (f : Nat → Int64) (j : Nat) : vp_updL f j (f j) = f := by
  funext i
  unfold vp_updL
  split
  · rename_i h; rw [h]
  · rfl
section
variable {G : pG} {M : pM} {R : Room} {QF : List Frame → Array Value → State → State → Prop} {k n pc : Nat} {lv : List (Nat × Value)} {st : List Value} {w : pW}
theorem P_iastS {i x : Int32} {j r a : Nat} {f : Nat → Int32} (d : decode M.2.1 pc = .ok (.iastore, 1)) (hw : w.2 r = .inl (0, a, .inl f)) (hr : r < 1000000) (hi : ix i j) (hj : j < a) (hs : upd f j x = f) (kk : PW G M R QF k n (pc + 1, lv, st, w)) : PW G M R QF k n (pc, lv, .int x :: .int i :: .ref r :: st, w) :=
  P_iast d hw hr hi hj (by rw [hs, wu_same hw]; exact kk)
theorem P_lastS {i : Int32} {x : Int64} {j r a : Nat} {f : Nat → Int64} (d : decode M.2.1 pc = .ok (.lastore, 1)) (hw : w.2 r = .inl (1, a, .inr (.inl f))) (hr : r < 1000000) (hi : ix i j) (hj : j < a) (hs : vp_updL f j x = f) (kk : PW G M R QF k n (pc + 1, lv, st, w)) : PW G M R QF k n (pc, lv, .long x :: .int i :: .ref r :: st, w) :=
  P_last d hw hr hi hj (by rw [hs, wu_same hw]; exact kk)
theorem PW_loop (N : Nat) (I : Nat → List (Nat × Value)) (out : PW G M R QF k n (pc, I N, [], w)) (step : ∀ j, j < N → PW G M R QF k n (pc, I (j + 1), [], w) → PW G M R QF k n (pc, I j, [], w)) : PW G M R QF k n (pc, I 0, [], w) := by
  have : ∀ d j, j + d = N → PW G M R QF k n (pc, I j, [], w) := by
    intro d
    induction d with
    | zero => intro j h; rw [show j = N by omega]; exact out
    | succ d ih => intro j h; exact step j (by omega) (ih (j + 1) (by omega))
  exact this N 0 (by omega)
end
def M_Plane_clear : pM := (⟨"CornerMaps$Plane", "clear", "()V"⟩, prog_6_method_2_code, 1, none)
theorem co_Plane_clear : CalOK M_Plane_clear 0 := ⟨g_at 344 (by decide +kernel) rfl, g_at 2 (by decide +kernel) rfl, by decide +kernel, by decide +kernel, by decide +kernel⟩
theorem pn_Plane_clear : plainName M_Plane_clear.1.cls = true := by decide +kernel
def M_Reader_next : pM := (⟨"CornerMaps$Reader", "next", "()V"⟩, prog_8_method_14_code, 1, none)
theorem co_Reader_next : CalOK M_Reader_next 0 := ⟨g_at 351 (by decide +kernel) rfl, g_at 6 (by decide +kernel) rfl, by decide +kernel, by decide +kernel, by decide +kernel⟩
theorem pn_Reader_next : plainName M_Reader_next.1.cls = true := by decide +kernel
def M_Past_forget : pM := (⟨"CornerMaps$Past", "forget", "()V"⟩, prog_5_method_2_code, 1, none)
theorem co_Past_forget : CalOK M_Past_forget 0 := ⟨g_at 495 (by decide +kernel) rfl, g_at 7 (by decide +kernel) rfl, by decide +kernel, by decide +kernel, by decide +kernel⟩
theorem pn_Past_forget : plainName M_Past_forget.1.cls = true := by decide +kernel
def M_Reader_read : pM := (⟨"CornerMaps$Reader", "read", "(ILCornerMaps$Plane;)Z"⟩, prog_8_method_2_code, 5, some .boolean)
theorem co_Reader_read : CalOK M_Reader_read 2 := ⟨g_at 340 (by decide +kernel) rfl, g_at 6 (by decide +kernel) rfl, by decide +kernel, by decide +kernel, by decide +kernel⟩
theorem pn_Reader_read : plainName M_Reader_read.1.cls = true := by decide +kernel
def M_MD_here : pM := (⟨"CornerMapsModel", "here", "()I"⟩, prog_12_method_4_code, 1, some .int)
theorem co_MD_here : CalOK M_MD_here 0 := ⟨g_at 1631 (by decide +kernel) rfl, g_at 13 (by decide +kernel) rfl, by decide +kernel, by decide +kernel, by decide +kernel⟩
theorem pn_MD_here : plainName M_MD_here.1.cls = true := by decide +kernel
def M_MD_token : pM := (⟨"CornerMapsModel", "token", "()V"⟩, prog_12_method_7_code, 2, none)
theorem co_MD_token : CalOK M_MD_token 0 := ⟨g_at 1627 (by decide +kernel) rfl, g_at 13 (by decide +kernel) rfl, by decide +kernel, by decide +kernel, by decide +kernel⟩
theorem pn_MD_token : plainName M_MD_token.1.cls = true := by decide +kernel
def M_Tape_hasRoomFor : pM := (⟨"CornerMaps$Tape", "hasRoomFor", "(I)Z"⟩, prog_10_method_2_code, 2, some .boolean)
theorem co_Tape_hasRoomFor : CalOK M_Tape_hasRoomFor 1 := ⟨g_at 328 (by decide +kernel) rfl, g_at 4 (by decide +kernel) rfl, by decide +kernel, by decide +kernel, by decide +kernel⟩
theorem pn_Tape_hasRoomFor : plainName M_Tape_hasRoomFor.1.cls = true := by decide +kernel
def M_Tape_put : pM := (⟨"CornerMaps$Tape", "put", "(I)V"⟩, prog_10_method_3_code, 3, none)
theorem co_Tape_put : CalOK M_Tape_put 1 := ⟨g_at 332 (by decide +kernel) rfl, g_at 4 (by decide +kernel) rfl, by decide +kernel, by decide +kernel, by decide +kernel⟩
theorem pn_Tape_put : plainName M_Tape_put.1.cls = true := by decide +kernel
theorem im_Plane_clear : Cond.instanceMethod M_Plane_clear.1 ∈ gtbl := g_at 342 (by decide +kernel) rfl
theorem se_Plane_clear : Cond.selects M_Plane_clear.1.cls M_Plane_clear.1 M_Plane_clear.1 ∈ gtbl := g_at 343 (by decide +kernel) rfl
theorem im_Reader_next : Cond.instanceMethod M_Reader_next.1 ∈ gtbl := g_at 350 (by decide +kernel) rfl
theorem se_Reader_next : Cond.selects M_Reader_next.1.cls M_Reader_next.1 M_Reader_next.1 ∈ gtbl := g_sel 0 (by decide +kernel) rfl
theorem im_Reader_read : Cond.instanceMethod M_Reader_read.1 ∈ gtbl := g_at 338 (by decide +kernel) rfl
theorem se_Reader_read : Cond.selects M_Reader_read.1.cls M_Reader_read.1 M_Reader_read.1 ∈ gtbl := g_at 339 (by decide +kernel) rfl
theorem im_Past_forget : Cond.instanceMethod M_Past_forget.1 ∈ gtbl := g_at 493 (by decide +kernel) rfl
theorem se_Past_forget : Cond.selects M_Past_forget.1.cls M_Past_forget.1 M_Past_forget.1 ∈ gtbl := g_at 494 (by decide +kernel) rfl
theorem im_MD_here : Cond.instanceMethod M_MD_here.1 ∈ gtbl := g_at 1630 (by decide +kernel) rfl
theorem se_MD_here : Cond.selects M_MD_here.1.cls M_MD_here.1 M_MD_here.1 ∈ gtbl := g_sel 44 (by decide +kernel) rfl
theorem im_MD_token : Cond.instanceMethod M_MD_token.1 ∈ gtbl := g_at 1626 (by decide +kernel) rfl
theorem se_MD_token : Cond.selects M_MD_token.1.cls M_MD_token.1 M_MD_token.1 ∈ gtbl := g_sel 43 (by decide +kernel) rfl
theorem im_Tape_hasRoomFor : Cond.instanceMethod M_Tape_hasRoomFor.1 ∈ gtbl := g_at 326 (by decide +kernel) rfl
theorem se_Tape_hasRoomFor : Cond.selects M_Tape_hasRoomFor.1.cls M_Tape_hasRoomFor.1 M_Tape_hasRoomFor.1 ∈ gtbl := g_at 327 (by decide +kernel) rfl
theorem im_Tape_put : Cond.instanceMethod M_Tape_put.1 ∈ gtbl := g_at 330 (by decide +kernel) rfl
theorem se_Tape_put : Cond.selects M_Tape_put.1.cls M_Tape_put.1 M_Tape_put.1 ∈ gtbl := g_at 331 (by decide +kernel) rfl
theorem L_Plane_26 : Cond.fieldLink "CornerMaps$Plane" 26 "CornerMaps$Plane" "lineCount" "I" ∈ gtbl := g_at 73 (by decide +kernel) rfl
theorem L_Reader_60 : Cond.fieldLink "CornerMaps$Reader" 60 "CornerMaps$Reader" "at" "I" ∈ gtbl := g_at 152 (by decide +kernel) rfl
theorem L_Reader_57 : Cond.fieldLink "CornerMaps$Reader" 57 "CornerMaps$Reader" "end" "I" ∈ gtbl := g_at 151 (by decide +kernel) rfl
theorem L_Reader_167 : Cond.fieldLink "CornerMaps$Reader" 167 "CornerMaps$Reader" "tokenPlace" "I" ∈ gtbl := g_at 154 (by decide +kernel) rfl
theorem L_Reader_164 : Cond.fieldLink "CornerMaps$Reader" 164 "CornerMaps$Reader" "value" "I" ∈ gtbl := g_at 155 (by decide +kernel) rfl
theorem L_Reader_69 : Cond.fieldLink "CornerMaps$Reader" 69 "CornerMaps$Reader" "token" "I" ∈ gtbl := g_at 153 (by decide +kernel) rfl
theorem L_Past_23 : Cond.fieldLink "CornerMaps$Past" 23 "CornerMaps$Past" "count" "I" ∈ gtbl := g_at 200 (by decide +kernel) rfl
theorem L_Reader_41 : Cond.methodLink "CornerMaps$Reader" 41 ⟨"CornerMaps$Plane", "clear", "()V"⟩ ∈ gtbl := g_at 341 (by decide +kernel) rfl
theorem L_Reader_46 : Cond.fieldLinkNest "CornerMaps$Reader" 46 "CornerMaps$Tape" "length" "I" "CornerMaps" ∈ ntbl := nt_at 112 (by decide +kernel) rfl
theorem L_Reader_51 : Cond.methodLink "CornerMaps$Reader" 51 ⟨"java/lang/Math", "min", "(II)I"⟩ ∈ gtbl := g_at 345 (by decide +kernel) rfl
theorem L_Reader_63 : Cond.fieldLink "CornerMaps$Reader" 63 "CornerMaps$Reader" "fault" "I" ∈ gtbl := g_at 156 (by decide +kernel) rfl
theorem L_Reader_66 : Cond.methodLink "CornerMaps$Reader" 66 ⟨"CornerMaps$Reader", "next", "()V"⟩ ∈ gtbl := g_at 348 (by decide +kernel) rfl
theorem L_MD_80 : Cond.fieldLink "CornerMapsModel" 80 "CornerMapsModel" "at" "I" ∈ gtbl := g_at 1513 (by decide +kernel) rfl
theorem L_MD_83 : Cond.fieldLink "CornerMapsModel" 83 "CornerMapsModel" "size" "I" ∈ gtbl := g_at 1512 (by decide +kernel) rfl
theorem L_CM_111 : Cond.methodLink "CornerMaps" 111 ⟨"CornerMaps$Reader", "read", "(ILCornerMaps$Plane;)Z"⟩ ∈ gtbl := g_at 337 (by decide +kernel) rfl
theorem L_CM_115 : Cond.methodLink "CornerMaps" 115 ⟨"CornerMaps$Past", "forget", "()V"⟩ ∈ gtbl := g_at 492 (by decide +kernel) rfl
theorem L_MD_86 : Cond.methodLink "CornerMapsModel" 86 ⟨"CornerMapsModel", "here", "()I"⟩ ∈ gtbl := g_at 1628 (by decide +kernel) rfl
theorem L_MD_90 : Cond.fieldLink "CornerMapsModel" 90 "CornerMapsModel" "place" "I" ∈ gtbl := g_at 1514 (by decide +kernel) rfl
theorem L_MD_93 : Cond.fieldLink "CornerMapsModel" 93 "CornerMapsModel" "sort" "I" ∈ gtbl := g_at 1515 (by decide +kernel) rfl
theorem L_MD_144 : Cond.fieldLink "CornerMapsModel" 144 "CornerMapsModel" "newQuads" "I" ∈ gtbl := g_at 1503 (by decide +kernel) rfl
theorem L_MD_195 : Cond.fieldLink "CornerMapsModel" 195 "CornerMapsModel" "newLines" "I" ∈ gtbl := g_at 1509 (by decide +kernel) rfl
theorem L_MD_124 : Cond.fieldLink "CornerMapsModel" 124 "CornerMapsModel" "fault" "I" ∈ gtbl := g_at 1518 (by decide +kernel) rfl
theorem L_MD_134 : Cond.methodLink "CornerMapsModel" 134 ⟨"CornerMapsModel", "token", "()V"⟩ ∈ gtbl := g_at 1624 (by decide +kernel) rfl
theorem L_Tape_15 : Cond.fieldLink "CornerMaps$Tape" 15 "CornerMaps$Tape" "length" "I" ∈ gtbl := g_at 111 (by decide +kernel) rfl
theorem L_CM_99 : Cond.methodLink "CornerMaps" 99 ⟨"CornerMaps$Tape", "hasRoomFor", "(I)Z"⟩ ∈ gtbl := g_at 325 (by decide +kernel) rfl
theorem L_CM_103 : Cond.methodLink "CornerMaps" 103 ⟨"CornerMaps$Tape", "put", "(I)V"⟩ ∈ gtbl := g_at 329 (by decide +kernel) rfl
theorem F_Plane_clear_0 : Jvm.Free.DS.Facts prog_6_method_2_code 0 [(.aload_n 0, 1), (.iconst 0, 1), (.putfield 26, 3), (.aload_n 0, 1), (.iconst 0, 1), (.putfield 30, 3), (.aload_n 0, 1), (.iconst 0, 1), (.putfield 33, 3), (.aload_n 0, 1), (.iconst 0, 1), (.putfield 36, 3), (.return_, 1)] := Jvm.Free.DS.facts 0 _ (by decide +kernel) (by decide +kernel)
theorem d_Plane_clear_0 : decode prog_6_method_2_code 0 = .ok (.aload_n 0, 1) := F_Plane_clear_0.1
theorem d_Plane_clear_1 : decode prog_6_method_2_code 1 = .ok (.iconst 0, 1) := F_Plane_clear_0.2.1
theorem d_Plane_clear_2 : decode prog_6_method_2_code 2 = .ok (.putfield 26, 3) := F_Plane_clear_0.2.2.1
theorem d_Plane_clear_5 : decode prog_6_method_2_code 5 = .ok (.aload_n 0, 1) := F_Plane_clear_0.2.2.2.1
theorem d_Plane_clear_6 : decode prog_6_method_2_code 6 = .ok (.iconst 0, 1) := F_Plane_clear_0.2.2.2.2.1
theorem d_Plane_clear_7 : decode prog_6_method_2_code 7 = .ok (.putfield 30, 3) := F_Plane_clear_0.2.2.2.2.2.1
theorem d_Plane_clear_10 : decode prog_6_method_2_code 10 = .ok (.aload_n 0, 1) := F_Plane_clear_0.2.2.2.2.2.2.1
theorem d_Plane_clear_11 : decode prog_6_method_2_code 11 = .ok (.iconst 0, 1) := F_Plane_clear_0.2.2.2.2.2.2.2.1
theorem d_Plane_clear_12 : decode prog_6_method_2_code 12 = .ok (.putfield 33, 3) := F_Plane_clear_0.2.2.2.2.2.2.2.2.1
theorem d_Plane_clear_15 : decode prog_6_method_2_code 15 = .ok (.aload_n 0, 1) := F_Plane_clear_0.2.2.2.2.2.2.2.2.2.1
theorem d_Plane_clear_16 : decode prog_6_method_2_code 16 = .ok (.iconst 0, 1) := F_Plane_clear_0.2.2.2.2.2.2.2.2.2.2.1
theorem d_Plane_clear_17 : decode prog_6_method_2_code 17 = .ok (.putfield 36, 3) := F_Plane_clear_0.2.2.2.2.2.2.2.2.2.2.2.1
theorem d_Plane_clear_20 : decode prog_6_method_2_code 20 = .ok (.return_, 1) := F_Plane_clear_0.2.2.2.2.2.2.2.2.2.2.2.2.1
theorem F_Reader_next_0 : Jvm.Free.DS.Facts prog_8_method_14_code 0 [(.aload_n 0, 1), (.getfield 60, 3), (.aload_n 0, 1), (.getfield 57, 3), (.if_icmp .ge (34), 3)] := Jvm.Free.DS.facts 0 _ (by decide +kernel) (by decide +kernel)
theorem d_Reader_next_0 : decode prog_8_method_14_code 0 = .ok (.aload_n 0, 1) := F_Reader_next_0.1
theorem d_Reader_next_1 : decode prog_8_method_14_code 1 = .ok (.getfield 60, 3) := F_Reader_next_0.2.1
theorem d_Reader_next_4 : decode prog_8_method_14_code 4 = .ok (.aload_n 0, 1) := F_Reader_next_0.2.2.1
theorem d_Reader_next_5 : decode prog_8_method_14_code 5 = .ok (.getfield 57, 3) := F_Reader_next_0.2.2.2.1
theorem d_Reader_next_8 : decode prog_8_method_14_code 8 = .ok (.if_icmp .ge (34), 3) := F_Reader_next_0.2.2.2.2.1
theorem F_Reader_next_42 : Jvm.Free.DS.Facts prog_8_method_14_code 42 [(.aload_n 0, 1), (.aload_n 0, 1), (.getfield 60, 3), (.putfield 167, 3), (.aload_n 0, 1), (.iconst 0, 1), (.putfield 164, 3), (.aload_n 0, 1), (.getfield 60, 3), (.aload_n 0, 1), (.getfield 57, 3), (.if_icmp .lt (11), 3), (.aload_n 0, 1), (.iconst 0, 1), (.putfield 69, 3), (.goto (69), 3)] := Jvm.Free.DS.facts 42 _ (by decide +kernel) (by decide +kernel)
theorem d_Reader_next_42 : decode prog_8_method_14_code 42 = .ok (.aload_n 0, 1) := F_Reader_next_42.1
theorem d_Reader_next_43 : decode prog_8_method_14_code 43 = .ok (.aload_n 0, 1) := F_Reader_next_42.2.1
theorem d_Reader_next_44 : decode prog_8_method_14_code 44 = .ok (.getfield 60, 3) := F_Reader_next_42.2.2.1
theorem d_Reader_next_47 : decode prog_8_method_14_code 47 = .ok (.putfield 167, 3) := F_Reader_next_42.2.2.2.1
theorem d_Reader_next_50 : decode prog_8_method_14_code 50 = .ok (.aload_n 0, 1) := F_Reader_next_42.2.2.2.2.1
theorem d_Reader_next_51 : decode prog_8_method_14_code 51 = .ok (.iconst 0, 1) := F_Reader_next_42.2.2.2.2.2.1
theorem d_Reader_next_52 : decode prog_8_method_14_code 52 = .ok (.putfield 164, 3) := F_Reader_next_42.2.2.2.2.2.2.1
theorem d_Reader_next_55 : decode prog_8_method_14_code 55 = .ok (.aload_n 0, 1) := F_Reader_next_42.2.2.2.2.2.2.2.1
theorem d_Reader_next_56 : decode prog_8_method_14_code 56 = .ok (.getfield 60, 3) := F_Reader_next_42.2.2.2.2.2.2.2.2.1
theorem d_Reader_next_59 : decode prog_8_method_14_code 59 = .ok (.aload_n 0, 1) := F_Reader_next_42.2.2.2.2.2.2.2.2.2.1
theorem d_Reader_next_60 : decode prog_8_method_14_code 60 = .ok (.getfield 57, 3) := F_Reader_next_42.2.2.2.2.2.2.2.2.2.2.1
theorem d_Reader_next_63 : decode prog_8_method_14_code 63 = .ok (.if_icmp .lt (11), 3) := F_Reader_next_42.2.2.2.2.2.2.2.2.2.2.2.1
theorem d_Reader_next_66 : decode prog_8_method_14_code 66 = .ok (.aload_n 0, 1) := F_Reader_next_42.2.2.2.2.2.2.2.2.2.2.2.2.1
theorem d_Reader_next_67 : decode prog_8_method_14_code 67 = .ok (.iconst 0, 1) := F_Reader_next_42.2.2.2.2.2.2.2.2.2.2.2.2.2.1
theorem d_Reader_next_68 : decode prog_8_method_14_code 68 = .ok (.putfield 69, 3) := F_Reader_next_42.2.2.2.2.2.2.2.2.2.2.2.2.2.2.1
theorem d_Reader_next_71 : decode prog_8_method_14_code 71 = .ok (.goto (69), 3) := F_Reader_next_42.2.2.2.2.2.2.2.2.2.2.2.2.2.2.2.1
theorem F_Reader_next_140 : Jvm.Free.DS.Facts prog_8_method_14_code 140 [(.return_, 1)] := Jvm.Free.DS.facts 140 _ (by decide +kernel) (by decide +kernel)
theorem d_Reader_next_140 : decode prog_8_method_14_code 140 = .ok (.return_, 1) := F_Reader_next_140.1
theorem F_Past_forget_0 : Jvm.Free.DS.Facts prog_5_method_2_code 0 [(.aload_n 0, 1), (.iconst 0, 1), (.putfield 23, 3), (.return_, 1)] := Jvm.Free.DS.facts 0 _ (by decide +kernel) (by decide +kernel)
theorem d_Past_forget_0 : decode prog_5_method_2_code 0 = .ok (.aload_n 0, 1) := F_Past_forget_0.1
theorem d_Past_forget_1 : decode prog_5_method_2_code 1 = .ok (.iconst 0, 1) := F_Past_forget_0.2.1
theorem d_Past_forget_2 : decode prog_5_method_2_code 2 = .ok (.putfield 23, 3) := F_Past_forget_0.2.2.1
theorem d_Past_forget_5 : decode prog_5_method_2_code 5 = .ok (.return_, 1) := F_Past_forget_0.2.2.2.1
theorem F_Reader_read_0 : Jvm.Free.DS.Facts prog_8_method_2_code 0 [(.aload_n 0, 1), (.aload_n 2, 1), (.putfield 37, 3), (.aload_n 0, 1), (.getfield 37, 3), (.invokevirtual 41, 3), (.aload_n 0, 1), (.iload_n 1, 1), (.aload_n 0, 1), (.getfield 29, 3), (.getfield 46, 3), (.invokestatic 51, 3), (.putfield 57, 3), (.aload_n 0, 1), (.iconst 0, 1), (.putfield 60, 3), (.aload_n 0, 1), (.iconst 0, 1), (.putfield 63, 3), (.aload_n 0, 1), (.iconst (-1), 1), (.putfield 25, 3), (.aload_n 0, 1), (.invokevirtual 66, 3), (.iconst 1, 1), (.istore_n 3, 1), (.iconst 0, 1), (.istore 4, 2), (.iload 4, 2), (.sipush (900), 3), (.if_icmp .ge (91), 3), (.iload_n 3, 1)] := Jvm.Free.DS.facts 0 _ (by decide +kernel) (by decide +kernel)
theorem d_Reader_read_0 : decode prog_8_method_2_code 0 = .ok (.aload_n 0, 1) := F_Reader_read_0.1
theorem d_Reader_read_1 : decode prog_8_method_2_code 1 = .ok (.aload_n 2, 1) := F_Reader_read_0.2.1
theorem d_Reader_read_2 : decode prog_8_method_2_code 2 = .ok (.putfield 37, 3) := F_Reader_read_0.2.2.1
theorem d_Reader_read_5 : decode prog_8_method_2_code 5 = .ok (.aload_n 0, 1) := F_Reader_read_0.2.2.2.1
theorem d_Reader_read_6 : decode prog_8_method_2_code 6 = .ok (.getfield 37, 3) := F_Reader_read_0.2.2.2.2.1
theorem d_Reader_read_9 : decode prog_8_method_2_code 9 = .ok (.invokevirtual 41, 3) := F_Reader_read_0.2.2.2.2.2.1
theorem d_Reader_read_12 : decode prog_8_method_2_code 12 = .ok (.aload_n 0, 1) := F_Reader_read_0.2.2.2.2.2.2.1
theorem d_Reader_read_13 : decode prog_8_method_2_code 13 = .ok (.iload_n 1, 1) := F_Reader_read_0.2.2.2.2.2.2.2.1
theorem d_Reader_read_14 : decode prog_8_method_2_code 14 = .ok (.aload_n 0, 1) := F_Reader_read_0.2.2.2.2.2.2.2.2.1
theorem d_Reader_read_15 : decode prog_8_method_2_code 15 = .ok (.getfield 29, 3) := F_Reader_read_0.2.2.2.2.2.2.2.2.2.1
theorem d_Reader_read_18 : decode prog_8_method_2_code 18 = .ok (.getfield 46, 3) := F_Reader_read_0.2.2.2.2.2.2.2.2.2.2.1
theorem d_Reader_read_21 : decode prog_8_method_2_code 21 = .ok (.invokestatic 51, 3) := F_Reader_read_0.2.2.2.2.2.2.2.2.2.2.2.1
theorem d_Reader_read_24 : decode prog_8_method_2_code 24 = .ok (.putfield 57, 3) := F_Reader_read_0.2.2.2.2.2.2.2.2.2.2.2.2.1
theorem d_Reader_read_27 : decode prog_8_method_2_code 27 = .ok (.aload_n 0, 1) := F_Reader_read_0.2.2.2.2.2.2.2.2.2.2.2.2.2.1
theorem d_Reader_read_28 : decode prog_8_method_2_code 28 = .ok (.iconst 0, 1) := F_Reader_read_0.2.2.2.2.2.2.2.2.2.2.2.2.2.2.1
theorem d_Reader_read_29 : decode prog_8_method_2_code 29 = .ok (.putfield 60, 3) := F_Reader_read_0.2.2.2.2.2.2.2.2.2.2.2.2.2.2.2.1
theorem d_Reader_read_32 : decode prog_8_method_2_code 32 = .ok (.aload_n 0, 1) := F_Reader_read_0.2.2.2.2.2.2.2.2.2.2.2.2.2.2.2.2.1
theorem d_Reader_read_33 : decode prog_8_method_2_code 33 = .ok (.iconst 0, 1) := F_Reader_read_0.2.2.2.2.2.2.2.2.2.2.2.2.2.2.2.2.2.1
theorem d_Reader_read_34 : decode prog_8_method_2_code 34 = .ok (.putfield 63, 3) := F_Reader_read_0.2.2.2.2.2.2.2.2.2.2.2.2.2.2.2.2.2.2.1
theorem d_Reader_read_37 : decode prog_8_method_2_code 37 = .ok (.aload_n 0, 1) := F_Reader_read_0.2.2.2.2.2.2.2.2.2.2.2.2.2.2.2.2.2.2.2.1
theorem d_Reader_read_38 : decode prog_8_method_2_code 38 = .ok (.iconst (-1), 1) := F_Reader_read_0.2.2.2.2.2.2.2.2.2.2.2.2.2.2.2.2.2.2.2.2.1
theorem d_Reader_read_39 : decode prog_8_method_2_code 39 = .ok (.putfield 25, 3) := F_Reader_read_0.2.2.2.2.2.2.2.2.2.2.2.2.2.2.2.2.2.2.2.2.2.1
theorem d_Reader_read_42 : decode prog_8_method_2_code 42 = .ok (.aload_n 0, 1) := F_Reader_read_0.2.2.2.2.2.2.2.2.2.2.2.2.2.2.2.2.2.2.2.2.2.2.1
theorem d_Reader_read_43 : decode prog_8_method_2_code 43 = .ok (.invokevirtual 66, 3) := F_Reader_read_0.2.2.2.2.2.2.2.2.2.2.2.2.2.2.2.2.2.2.2.2.2.2.2.1
theorem d_Reader_read_46 : decode prog_8_method_2_code 46 = .ok (.iconst 1, 1) := F_Reader_read_0.2.2.2.2.2.2.2.2.2.2.2.2.2.2.2.2.2.2.2.2.2.2.2.2.1
theorem d_Reader_read_47 : decode prog_8_method_2_code 47 = .ok (.istore_n 3, 1) := F_Reader_read_0.2.2.2.2.2.2.2.2.2.2.2.2.2.2.2.2.2.2.2.2.2.2.2.2.2.1
theorem d_Reader_read_48 : decode prog_8_method_2_code 48 = .ok (.iconst 0, 1) := F_Reader_read_0.2.2.2.2.2.2.2.2.2.2.2.2.2.2.2.2.2.2.2.2.2.2.2.2.2.2.1
theorem d_Reader_read_49 : decode prog_8_method_2_code 49 = .ok (.istore 4, 2) := F_Reader_read_0.2.2.2.2.2.2.2.2.2.2.2.2.2.2.2.2.2.2.2.2.2.2.2.2.2.2.2.1
theorem d_Reader_read_51 : decode prog_8_method_2_code 51 = .ok (.iload 4, 2) := F_Reader_read_0.2.2.2.2.2.2.2.2.2.2.2.2.2.2.2.2.2.2.2.2.2.2.2.2.2.2.2.2.1
theorem d_Reader_read_53 : decode prog_8_method_2_code 53 = .ok (.sipush (900), 3) := F_Reader_read_0.2.2.2.2.2.2.2.2.2.2.2.2.2.2.2.2.2.2.2.2.2.2.2.2.2.2.2.2.2.1
theorem d_Reader_read_56 : decode prog_8_method_2_code 56 = .ok (.if_icmp .ge (91), 3) := F_Reader_read_0.2.2.2.2.2.2.2.2.2.2.2.2.2.2.2.2.2.2.2.2.2.2.2.2.2.2.2.2.2.2.1
theorem d_Reader_read_59 : decode prog_8_method_2_code 59 = .ok (.iload_n 3, 1) := F_Reader_read_0.2.2.2.2.2.2.2.2.2.2.2.2.2.2.2.2.2.2.2.2.2.2.2.2.2.2.2.2.2.2.2.1
theorem F_Reader_read_60 : Jvm.Free.DS.Facts prog_8_method_2_code 60 [(.ifCond .eq (87), 3), (.aload_n 0, 1), (.getfield 69, 3), (.ifCond .eq (80), 3)] := Jvm.Free.DS.facts 60 _ (by decide +kernel) (by decide +kernel)
theorem d_Reader_read_60 : decode prog_8_method_2_code 60 = .ok (.ifCond .eq (87), 3) := F_Reader_read_60.1
theorem d_Reader_read_63 : decode prog_8_method_2_code 63 = .ok (.aload_n 0, 1) := F_Reader_read_60.2.1
theorem d_Reader_read_64 : decode prog_8_method_2_code 64 = .ok (.getfield 69, 3) := F_Reader_read_60.2.2.1
theorem d_Reader_read_67 : decode prog_8_method_2_code 67 = .ok (.ifCond .eq (80), 3) := F_Reader_read_60.2.2.2.1
theorem F_Reader_read_147 : Jvm.Free.DS.Facts prog_8_method_2_code 147 [(.iload_n 3, 1), (.ireturn, 1)] := Jvm.Free.DS.facts 147 _ (by decide +kernel) (by decide +kernel)
theorem d_Reader_read_147 : decode prog_8_method_2_code 147 = .ok (.iload_n 3, 1) := F_Reader_read_147.1
theorem d_Reader_read_148 : decode prog_8_method_2_code 148 = .ok (.ireturn, 1) := F_Reader_read_147.2.1
theorem F_MD_here_0 : Jvm.Free.DS.Facts prog_12_method_4_code 0 [(.aload_n 0, 1), (.getfield 80, 3), (.aload_n 0, 1), (.getfield 83, 3), (.if_icmp .ge (15), 3)] := Jvm.Free.DS.facts 0 _ (by decide +kernel) (by decide +kernel)
theorem d_MD_here_0 : decode prog_12_method_4_code 0 = .ok (.aload_n 0, 1) := F_MD_here_0.1
theorem d_MD_here_1 : decode prog_12_method_4_code 1 = .ok (.getfield 80, 3) := F_MD_here_0.2.1
theorem d_MD_here_4 : decode prog_12_method_4_code 4 = .ok (.aload_n 0, 1) := F_MD_here_0.2.2.1
theorem d_MD_here_5 : decode prog_12_method_4_code 5 = .ok (.getfield 83, 3) := F_MD_here_0.2.2.2.1
theorem d_MD_here_8 : decode prog_12_method_4_code 8 = .ok (.if_icmp .ge (15), 3) := F_MD_here_0.2.2.2.2.1
theorem F_MD_here_23 : Jvm.Free.DS.Facts prog_12_method_4_code 23 [(.iconst (-1), 1), (.ireturn, 1)] := Jvm.Free.DS.facts 23 _ (by decide +kernel) (by decide +kernel)
theorem d_MD_here_23 : decode prog_12_method_4_code 23 = .ok (.iconst (-1), 1) := F_MD_here_23.1
theorem d_MD_here_24 : decode prog_12_method_4_code 24 = .ok (.ireturn, 1) := F_MD_here_23.2.1
theorem F_CM_text_30 : Jvm.Free.DS.Facts prog_1_method_3_code 30 [(.istore_n 2, 1), (.aload_n 0, 1), (.getfield 24, 3), (.iconst 0, 1), (.putfield 107, 3), (.iload_n 2, 1), (.ifCond .ne (5), 3)] := Jvm.Free.DS.facts 30 _ (by decide +kernel) (by decide +kernel)
theorem d_CM_text_30 : decode prog_1_method_3_code 30 = .ok (.istore_n 2, 1) := F_CM_text_30.1
theorem d_CM_text_31 : decode prog_1_method_3_code 31 = .ok (.aload_n 0, 1) := F_CM_text_30.2.1
theorem d_CM_text_32 : decode prog_1_method_3_code 32 = .ok (.getfield 24, 3) := F_CM_text_30.2.2.1
theorem d_CM_text_35 : decode prog_1_method_3_code 35 = .ok (.iconst 0, 1) := F_CM_text_30.2.2.2.1
theorem d_CM_text_36 : decode prog_1_method_3_code 36 = .ok (.putfield 107, 3) := F_CM_text_30.2.2.2.2.1
theorem d_CM_text_39 : decode prog_1_method_3_code 39 = .ok (.iload_n 2, 1) := F_CM_text_30.2.2.2.2.2.1
theorem d_CM_text_40 : decode prog_1_method_3_code 40 = .ok (.ifCond .ne (5), 3) := F_CM_text_30.2.2.2.2.2.2.1
theorem F_CM_text_45 : Jvm.Free.DS.Facts prog_1_method_3_code 45 [(.aload_n 0, 1), (.getfield 12, 3), (.astore_n 3, 1), (.aload_n 0, 1), (.aload_n 0, 1), (.getfield 18, 3), (.putfield 12, 3), (.aload_n 0, 1), (.aload_n 3, 1), (.putfield 18, 3), (.aload_n 0, 1), (.getfield 47, 3), (.invokevirtual 115, 3), (.aload_n 0, 1), (.getfield 12, 3), (.getfield 118, 3), (.ireturn, 1)] := Jvm.Free.DS.facts 45 _ (by decide +kernel) (by decide +kernel)
theorem d_CM_text_45 : decode prog_1_method_3_code 45 = .ok (.aload_n 0, 1) := F_CM_text_45.1
theorem d_CM_text_46 : decode prog_1_method_3_code 46 = .ok (.getfield 12, 3) := F_CM_text_45.2.1
theorem d_CM_text_49 : decode prog_1_method_3_code 49 = .ok (.astore_n 3, 1) := F_CM_text_45.2.2.1
theorem d_CM_text_50 : decode prog_1_method_3_code 50 = .ok (.aload_n 0, 1) := F_CM_text_45.2.2.2.1
theorem d_CM_text_51 : decode prog_1_method_3_code 51 = .ok (.aload_n 0, 1) := F_CM_text_45.2.2.2.2.1
theorem d_CM_text_52 : decode prog_1_method_3_code 52 = .ok (.getfield 18, 3) := F_CM_text_45.2.2.2.2.2.1
theorem d_CM_text_55 : decode prog_1_method_3_code 55 = .ok (.putfield 12, 3) := F_CM_text_45.2.2.2.2.2.2.1
theorem d_CM_text_58 : decode prog_1_method_3_code 58 = .ok (.aload_n 0, 1) := F_CM_text_45.2.2.2.2.2.2.2.1
theorem d_CM_text_59 : decode prog_1_method_3_code 59 = .ok (.aload_n 3, 1) := F_CM_text_45.2.2.2.2.2.2.2.2.1
theorem d_CM_text_60 : decode prog_1_method_3_code 60 = .ok (.putfield 18, 3) := F_CM_text_45.2.2.2.2.2.2.2.2.2.1
theorem d_CM_text_63 : decode prog_1_method_3_code 63 = .ok (.aload_n 0, 1) := F_CM_text_45.2.2.2.2.2.2.2.2.2.2.1
theorem d_CM_text_64 : decode prog_1_method_3_code 64 = .ok (.getfield 47, 3) := F_CM_text_45.2.2.2.2.2.2.2.2.2.2.2.1
theorem d_CM_text_67 : decode prog_1_method_3_code 67 = .ok (.invokevirtual 115, 3) := F_CM_text_45.2.2.2.2.2.2.2.2.2.2.2.2.1
theorem d_CM_text_70 : decode prog_1_method_3_code 70 = .ok (.aload_n 0, 1) := F_CM_text_45.2.2.2.2.2.2.2.2.2.2.2.2.2.1
theorem d_CM_text_71 : decode prog_1_method_3_code 71 = .ok (.getfield 12, 3) := F_CM_text_45.2.2.2.2.2.2.2.2.2.2.2.2.2.2.1
theorem d_CM_text_74 : decode prog_1_method_3_code 74 = .ok (.getfield 118, 3) := F_CM_text_45.2.2.2.2.2.2.2.2.2.2.2.2.2.2.2.1
theorem d_CM_text_77 : decode prog_1_method_3_code 77 = .ok (.ireturn, 1) := F_CM_text_45.2.2.2.2.2.2.2.2.2.2.2.2.2.2.2.2.1
theorem F_MD_token_0 : Jvm.Free.DS.Facts prog_12_method_7_code 0 [(.aload_n 0, 1), (.invokevirtual 86, 3), (.bipush (10), 2), (.if_icmp .eq (12), 3), (.aload_n 0, 1), (.invokevirtual 86, 3), (.bipush (32), 2), (.if_icmp .ne (16), 3)] := Jvm.Free.DS.facts 0 _ (by decide +kernel) (by decide +kernel)
theorem d_MD_token_0 : decode prog_12_method_7_code 0 = .ok (.aload_n 0, 1) := F_MD_token_0.1
theorem d_MD_token_1 : decode prog_12_method_7_code 1 = .ok (.invokevirtual 86, 3) := F_MD_token_0.2.1
theorem d_MD_token_4 : decode prog_12_method_7_code 4 = .ok (.bipush (10), 2) := F_MD_token_0.2.2.1
theorem d_MD_token_6 : decode prog_12_method_7_code 6 = .ok (.if_icmp .eq (12), 3) := F_MD_token_0.2.2.2.1
theorem d_MD_token_9 : decode prog_12_method_7_code 9 = .ok (.aload_n 0, 1) := F_MD_token_0.2.2.2.2.1
theorem d_MD_token_10 : decode prog_12_method_7_code 10 = .ok (.invokevirtual 86, 3) := F_MD_token_0.2.2.2.2.2.1
theorem d_MD_token_13 : decode prog_12_method_7_code 13 = .ok (.bipush (32), 2) := F_MD_token_0.2.2.2.2.2.2.1
theorem d_MD_token_15 : decode prog_12_method_7_code 15 = .ok (.if_icmp .ne (16), 3) := F_MD_token_0.2.2.2.2.2.2.2.1
theorem F_MD_token_31 : Jvm.Free.DS.Facts prog_12_method_7_code 31 [(.aload_n 0, 1), (.aload_n 0, 1), (.getfield 80, 3), (.putfield 90, 3), (.aload_n 0, 1), (.invokevirtual 86, 3), (.istore_n 1, 1), (.iload_n 1, 1), (.iconst (-1), 1), (.if_icmp .ne (11), 3), (.aload_n 0, 1), (.iconst 3, 1), (.putfield 93, 3), (.goto (216), 3)] := Jvm.Free.DS.facts 31 _ (by decide +kernel) (by decide +kernel)
theorem d_MD_token_31 : decode prog_12_method_7_code 31 = .ok (.aload_n 0, 1) := F_MD_token_31.1
theorem d_MD_token_32 : decode prog_12_method_7_code 32 = .ok (.aload_n 0, 1) := F_MD_token_31.2.1
theorem d_MD_token_33 : decode prog_12_method_7_code 33 = .ok (.getfield 80, 3) := F_MD_token_31.2.2.1
theorem d_MD_token_36 : decode prog_12_method_7_code 36 = .ok (.putfield 90, 3) := F_MD_token_31.2.2.2.1
theorem d_MD_token_39 : decode prog_12_method_7_code 39 = .ok (.aload_n 0, 1) := F_MD_token_31.2.2.2.2.1
theorem d_MD_token_40 : decode prog_12_method_7_code 40 = .ok (.invokevirtual 86, 3) := F_MD_token_31.2.2.2.2.2.1
theorem d_MD_token_43 : decode prog_12_method_7_code 43 = .ok (.istore_n 1, 1) := F_MD_token_31.2.2.2.2.2.2.1
theorem d_MD_token_44 : decode prog_12_method_7_code 44 = .ok (.iload_n 1, 1) := F_MD_token_31.2.2.2.2.2.2.2.1
theorem d_MD_token_45 : decode prog_12_method_7_code 45 = .ok (.iconst (-1), 1) := F_MD_token_31.2.2.2.2.2.2.2.2.1
theorem d_MD_token_46 : decode prog_12_method_7_code 46 = .ok (.if_icmp .ne (11), 3) := F_MD_token_31.2.2.2.2.2.2.2.2.2.1
theorem d_MD_token_49 : decode prog_12_method_7_code 49 = .ok (.aload_n 0, 1) := F_MD_token_31.2.2.2.2.2.2.2.2.2.2.1
theorem d_MD_token_50 : decode prog_12_method_7_code 50 = .ok (.iconst 3, 1) := F_MD_token_31.2.2.2.2.2.2.2.2.2.2.2.1
theorem d_MD_token_51 : decode prog_12_method_7_code 51 = .ok (.putfield 93, 3) := F_MD_token_31.2.2.2.2.2.2.2.2.2.2.2.2.1
theorem d_MD_token_54 : decode prog_12_method_7_code 54 = .ok (.goto (216), 3) := F_MD_token_31.2.2.2.2.2.2.2.2.2.2.2.2.2.1
theorem F_MD_token_270 : Jvm.Free.DS.Facts prog_12_method_7_code 270 [(.return_, 1)] := Jvm.Free.DS.facts 270 _ (by decide +kernel) (by decide +kernel)
theorem d_MD_token_270 : decode prog_12_method_7_code 270 = .ok (.return_, 1) := F_MD_token_270.1
theorem F_MD_text_36 : Jvm.Free.DS.Facts prog_12_method_21_code 36 [(.iinc 2 (1), 3), (.goto (-17), 3), (.aload_n 0, 1), (.iconst 0, 1), (.putfield 144, 3), (.aload_n 0, 1), (.iconst 0, 1), (.putfield 195, 3), (.aload_n 0, 1), (.iload_n 1, 1), (.putfield 83, 3), (.aload_n 0, 1), (.iconst 0, 1), (.putfield 80, 3), (.aload_n 0, 1), (.iconst 0, 1), (.putfield 124, 3), (.aload_n 0, 1), (.invokevirtual 134, 3), (.aload_n 0, 1), (.getfield 124, 3), (.ifCond .ne (18), 3), (.aload_n 0, 1), (.getfield 93, 3), (.iconst 3, 1), (.if_icmp .eq (10), 3)] := Jvm.Free.DS.facts 36 _ (by decide +kernel) (by decide +kernel)
theorem d_MD_text_36 : decode prog_12_method_21_code 36 = .ok (.iinc 2 (1), 3) := F_MD_text_36.1
theorem d_MD_text_39 : decode prog_12_method_21_code 39 = .ok (.goto (-17), 3) := F_MD_text_36.2.1
theorem d_MD_text_42 : decode prog_12_method_21_code 42 = .ok (.aload_n 0, 1) := F_MD_text_36.2.2.1
theorem d_MD_text_43 : decode prog_12_method_21_code 43 = .ok (.iconst 0, 1) := F_MD_text_36.2.2.2.1
theorem d_MD_text_44 : decode prog_12_method_21_code 44 = .ok (.putfield 144, 3) := F_MD_text_36.2.2.2.2.1
theorem d_MD_text_47 : decode prog_12_method_21_code 47 = .ok (.aload_n 0, 1) := F_MD_text_36.2.2.2.2.2.1
theorem d_MD_text_48 : decode prog_12_method_21_code 48 = .ok (.iconst 0, 1) := F_MD_text_36.2.2.2.2.2.2.1
theorem d_MD_text_49 : decode prog_12_method_21_code 49 = .ok (.putfield 195, 3) := F_MD_text_36.2.2.2.2.2.2.2.1
theorem d_MD_text_52 : decode prog_12_method_21_code 52 = .ok (.aload_n 0, 1) := F_MD_text_36.2.2.2.2.2.2.2.2.1
theorem d_MD_text_53 : decode prog_12_method_21_code 53 = .ok (.iload_n 1, 1) := F_MD_text_36.2.2.2.2.2.2.2.2.2.1
theorem d_MD_text_54 : decode prog_12_method_21_code 54 = .ok (.putfield 83, 3) := F_MD_text_36.2.2.2.2.2.2.2.2.2.2.1
theorem d_MD_text_57 : decode prog_12_method_21_code 57 = .ok (.aload_n 0, 1) := F_MD_text_36.2.2.2.2.2.2.2.2.2.2.2.1
theorem d_MD_text_58 : decode prog_12_method_21_code 58 = .ok (.iconst 0, 1) := F_MD_text_36.2.2.2.2.2.2.2.2.2.2.2.2.1
theorem d_MD_text_59 : decode prog_12_method_21_code 59 = .ok (.putfield 80, 3) := F_MD_text_36.2.2.2.2.2.2.2.2.2.2.2.2.2.1
theorem d_MD_text_62 : decode prog_12_method_21_code 62 = .ok (.aload_n 0, 1) := F_MD_text_36.2.2.2.2.2.2.2.2.2.2.2.2.2.2.1
theorem d_MD_text_63 : decode prog_12_method_21_code 63 = .ok (.iconst 0, 1) := F_MD_text_36.2.2.2.2.2.2.2.2.2.2.2.2.2.2.2.1
theorem d_MD_text_64 : decode prog_12_method_21_code 64 = .ok (.putfield 124, 3) := F_MD_text_36.2.2.2.2.2.2.2.2.2.2.2.2.2.2.2.2.1
theorem d_MD_text_67 : decode prog_12_method_21_code 67 = .ok (.aload_n 0, 1) := F_MD_text_36.2.2.2.2.2.2.2.2.2.2.2.2.2.2.2.2.2.1
theorem d_MD_text_68 : decode prog_12_method_21_code 68 = .ok (.invokevirtual 134, 3) := F_MD_text_36.2.2.2.2.2.2.2.2.2.2.2.2.2.2.2.2.2.2.1
theorem d_MD_text_71 : decode prog_12_method_21_code 71 = .ok (.aload_n 0, 1) := F_MD_text_36.2.2.2.2.2.2.2.2.2.2.2.2.2.2.2.2.2.2.2.1
theorem d_MD_text_72 : decode prog_12_method_21_code 72 = .ok (.getfield 124, 3) := F_MD_text_36.2.2.2.2.2.2.2.2.2.2.2.2.2.2.2.2.2.2.2.2.1
theorem d_MD_text_75 : decode prog_12_method_21_code 75 = .ok (.ifCond .ne (18), 3) := F_MD_text_36.2.2.2.2.2.2.2.2.2.2.2.2.2.2.2.2.2.2.2.2.2.1
theorem d_MD_text_78 : decode prog_12_method_21_code 78 = .ok (.aload_n 0, 1) := F_MD_text_36.2.2.2.2.2.2.2.2.2.2.2.2.2.2.2.2.2.2.2.2.2.2.1
theorem d_MD_text_79 : decode prog_12_method_21_code 79 = .ok (.getfield 93, 3) := F_MD_text_36.2.2.2.2.2.2.2.2.2.2.2.2.2.2.2.2.2.2.2.2.2.2.2.1
theorem d_MD_text_82 : decode prog_12_method_21_code 82 = .ok (.iconst 3, 1) := F_MD_text_36.2.2.2.2.2.2.2.2.2.2.2.2.2.2.2.2.2.2.2.2.2.2.2.2.1
theorem d_MD_text_83 : decode prog_12_method_21_code 83 = .ok (.if_icmp .eq (10), 3) := F_MD_text_36.2.2.2.2.2.2.2.2.2.2.2.2.2.2.2.2.2.2.2.2.2.2.2.2.2.1
theorem F_MD_text_93 : Jvm.Free.DS.Facts prog_12_method_21_code 93 [(.aload_n 0, 1), (.iconst 0, 1), (.putfield 77, 3), (.aload_n 0, 1), (.aload_n 0, 1), (.getfield 124, 3), (.putfield 201, 3), (.aload_n 0, 1), (.aload_n 0, 1), (.getfield 124, 3), (.ifCond .ne (7), 3), (.iconst (-1), 1), (.goto (7), 3)] := Jvm.Free.DS.facts 93 _ (by decide +kernel) (by decide +kernel)
theorem d_MD_text_93 : decode prog_12_method_21_code 93 = .ok (.aload_n 0, 1) := F_MD_text_93.1
theorem d_MD_text_94 : decode prog_12_method_21_code 94 = .ok (.iconst 0, 1) := F_MD_text_93.2.1
theorem d_MD_text_95 : decode prog_12_method_21_code 95 = .ok (.putfield 77, 3) := F_MD_text_93.2.2.1
theorem d_MD_text_98 : decode prog_12_method_21_code 98 = .ok (.aload_n 0, 1) := F_MD_text_93.2.2.2.1
theorem d_MD_text_99 : decode prog_12_method_21_code 99 = .ok (.aload_n 0, 1) := F_MD_text_93.2.2.2.2.1
theorem d_MD_text_100 : decode prog_12_method_21_code 100 = .ok (.getfield 124, 3) := F_MD_text_93.2.2.2.2.2.1
theorem d_MD_text_103 : decode prog_12_method_21_code 103 = .ok (.putfield 201, 3) := F_MD_text_93.2.2.2.2.2.2.1
theorem d_MD_text_106 : decode prog_12_method_21_code 106 = .ok (.aload_n 0, 1) := F_MD_text_93.2.2.2.2.2.2.2.1
theorem d_MD_text_107 : decode prog_12_method_21_code 107 = .ok (.aload_n 0, 1) := F_MD_text_93.2.2.2.2.2.2.2.2.1
theorem d_MD_text_108 : decode prog_12_method_21_code 108 = .ok (.getfield 124, 3) := F_MD_text_93.2.2.2.2.2.2.2.2.2.1
theorem d_MD_text_111 : decode prog_12_method_21_code 111 = .ok (.ifCond .ne (7), 3) := F_MD_text_93.2.2.2.2.2.2.2.2.2.2.1
theorem d_MD_text_114 : decode prog_12_method_21_code 114 = .ok (.iconst (-1), 1) := F_MD_text_93.2.2.2.2.2.2.2.2.2.2.2.1
theorem d_MD_text_115 : decode prog_12_method_21_code 115 = .ok (.goto (7), 3) := F_MD_text_93.2.2.2.2.2.2.2.2.2.2.2.2.1
theorem F_MD_text_122 : Jvm.Free.DS.Facts prog_12_method_21_code 122 [(.putfield 37, 3), (.aload_n 0, 1), (.getfield 124, 3), (.ifCond .eq (5), 3)] := Jvm.Free.DS.facts 122 _ (by decide +kernel) (by decide +kernel)
theorem d_MD_text_122 : decode prog_12_method_21_code 122 = .ok (.putfield 37, 3) := F_MD_text_122.1
theorem d_MD_text_125 : decode prog_12_method_21_code 125 = .ok (.aload_n 0, 1) := F_MD_text_122.2.1
theorem d_MD_text_126 : decode prog_12_method_21_code 126 = .ok (.getfield 124, 3) := F_MD_text_122.2.2.1
theorem d_MD_text_129 : decode prog_12_method_21_code 129 = .ok (.ifCond .eq (5), 3) := F_MD_text_122.2.2.2.1
theorem F_MD_text_134 : Jvm.Free.DS.Facts prog_12_method_21_code 134 [(.iconst 0, 1), (.istore_n 2, 1), (.iload_n 2, 1), (.bipush (64), 2), (.if_icmp .ge (21), 3), (.aload_n 0, 1), (.getfield 15, 3), (.iload_n 2, 1), (.aload_n 0, 1), (.getfield 18, 3), (.iload_n 2, 1), (.iaload, 1), (.iastore, 1), (.iinc 2 (1), 3), (.goto (-21), 3), (.iconst 0, 1), (.istore_n 2, 1), (.iload_n 2, 1), (.sipush (170), 3), (.if_icmp .ge (21), 3), (.aload_n 0, 1), (.getfield 21, 3), (.iload_n 2, 1), (.aload_n 0, 1), (.getfield 25, 3), (.iload_n 2, 1), (.laload, 1), (.lastore, 1), (.iinc 2 (1), 3), (.goto (-22), 3), (.aload_n 0, 1), (.aload_n 0, 1)] := Jvm.Free.DS.facts 134 _ (by decide +kernel) (by decide +kernel)
theorem d_MD_text_134 : decode prog_12_method_21_code 134 = .ok (.iconst 0, 1) := F_MD_text_134.1
theorem d_MD_text_135 : decode prog_12_method_21_code 135 = .ok (.istore_n 2, 1) := F_MD_text_134.2.1
theorem d_MD_text_136 : decode prog_12_method_21_code 136 = .ok (.iload_n 2, 1) := F_MD_text_134.2.2.1
theorem d_MD_text_137 : decode prog_12_method_21_code 137 = .ok (.bipush (64), 2) := F_MD_text_134.2.2.2.1
theorem d_MD_text_139 : decode prog_12_method_21_code 139 = .ok (.if_icmp .ge (21), 3) := F_MD_text_134.2.2.2.2.1
theorem d_MD_text_142 : decode prog_12_method_21_code 142 = .ok (.aload_n 0, 1) := F_MD_text_134.2.2.2.2.2.1
theorem d_MD_text_143 : decode prog_12_method_21_code 143 = .ok (.getfield 15, 3) := F_MD_text_134.2.2.2.2.2.2.1
theorem d_MD_text_146 : decode prog_12_method_21_code 146 = .ok (.iload_n 2, 1) := F_MD_text_134.2.2.2.2.2.2.2.1
theorem d_MD_text_147 : decode prog_12_method_21_code 147 = .ok (.aload_n 0, 1) := F_MD_text_134.2.2.2.2.2.2.2.2.1
theorem d_MD_text_148 : decode prog_12_method_21_code 148 = .ok (.getfield 18, 3) := F_MD_text_134.2.2.2.2.2.2.2.2.2.1
theorem d_MD_text_151 : decode prog_12_method_21_code 151 = .ok (.iload_n 2, 1) := F_MD_text_134.2.2.2.2.2.2.2.2.2.2.1
theorem d_MD_text_152 : decode prog_12_method_21_code 152 = .ok (.iaload, 1) := F_MD_text_134.2.2.2.2.2.2.2.2.2.2.2.1
theorem d_MD_text_153 : decode prog_12_method_21_code 153 = .ok (.iastore, 1) := F_MD_text_134.2.2.2.2.2.2.2.2.2.2.2.2.1
theorem d_MD_text_154 : decode prog_12_method_21_code 154 = .ok (.iinc 2 (1), 3) := F_MD_text_134.2.2.2.2.2.2.2.2.2.2.2.2.2.1
theorem d_MD_text_157 : decode prog_12_method_21_code 157 = .ok (.goto (-21), 3) := F_MD_text_134.2.2.2.2.2.2.2.2.2.2.2.2.2.2.1
theorem d_MD_text_160 : decode prog_12_method_21_code 160 = .ok (.iconst 0, 1) := F_MD_text_134.2.2.2.2.2.2.2.2.2.2.2.2.2.2.2.1
theorem d_MD_text_161 : decode prog_12_method_21_code 161 = .ok (.istore_n 2, 1) := F_MD_text_134.2.2.2.2.2.2.2.2.2.2.2.2.2.2.2.2.1
theorem d_MD_text_162 : decode prog_12_method_21_code 162 = .ok (.iload_n 2, 1) := F_MD_text_134.2.2.2.2.2.2.2.2.2.2.2.2.2.2.2.2.2.1
theorem d_MD_text_163 : decode prog_12_method_21_code 163 = .ok (.sipush (170), 3) := F_MD_text_134.2.2.2.2.2.2.2.2.2.2.2.2.2.2.2.2.2.2.1
theorem d_MD_text_166 : decode prog_12_method_21_code 166 = .ok (.if_icmp .ge (21), 3) := F_MD_text_134.2.2.2.2.2.2.2.2.2.2.2.2.2.2.2.2.2.2.2.1
theorem d_MD_text_169 : decode prog_12_method_21_code 169 = .ok (.aload_n 0, 1) := F_MD_text_134.2.2.2.2.2.2.2.2.2.2.2.2.2.2.2.2.2.2.2.2.1
theorem d_MD_text_170 : decode prog_12_method_21_code 170 = .ok (.getfield 21, 3) := F_MD_text_134.2.2.2.2.2.2.2.2.2.2.2.2.2.2.2.2.2.2.2.2.2.1
theorem d_MD_text_173 : decode prog_12_method_21_code 173 = .ok (.iload_n 2, 1) := F_MD_text_134.2.2.2.2.2.2.2.2.2.2.2.2.2.2.2.2.2.2.2.2.2.2.1
theorem d_MD_text_174 : decode prog_12_method_21_code 174 = .ok (.aload_n 0, 1) := F_MD_text_134.2.2.2.2.2.2.2.2.2.2.2.2.2.2.2.2.2.2.2.2.2.2.2.1
theorem d_MD_text_175 : decode prog_12_method_21_code 175 = .ok (.getfield 25, 3) := F_MD_text_134.2.2.2.2.2.2.2.2.2.2.2.2.2.2.2.2.2.2.2.2.2.2.2.2.1
theorem d_MD_text_178 : decode prog_12_method_21_code 178 = .ok (.iload_n 2, 1) := F_MD_text_134.2.2.2.2.2.2.2.2.2.2.2.2.2.2.2.2.2.2.2.2.2.2.2.2.2.1
theorem d_MD_text_179 : decode prog_12_method_21_code 179 = .ok (.laload, 1) := F_MD_text_134.2.2.2.2.2.2.2.2.2.2.2.2.2.2.2.2.2.2.2.2.2.2.2.2.2.2.1
theorem d_MD_text_180 : decode prog_12_method_21_code 180 = .ok (.lastore, 1) := F_MD_text_134.2.2.2.2.2.2.2.2.2.2.2.2.2.2.2.2.2.2.2.2.2.2.2.2.2.2.2.1
theorem d_MD_text_181 : decode prog_12_method_21_code 181 = .ok (.iinc 2 (1), 3) := F_MD_text_134.2.2.2.2.2.2.2.2.2.2.2.2.2.2.2.2.2.2.2.2.2.2.2.2.2.2.2.2.1
theorem d_MD_text_184 : decode prog_12_method_21_code 184 = .ok (.goto (-22), 3) := F_MD_text_134.2.2.2.2.2.2.2.2.2.2.2.2.2.2.2.2.2.2.2.2.2.2.2.2.2.2.2.2.2.1
theorem d_MD_text_187 : decode prog_12_method_21_code 187 = .ok (.aload_n 0, 1) := F_MD_text_134.2.2.2.2.2.2.2.2.2.2.2.2.2.2.2.2.2.2.2.2.2.2.2.2.2.2.2.2.2.2.1
theorem d_MD_text_188 : decode prog_12_method_21_code 188 = .ok (.aload_n 0, 1) := F_MD_text_134.2.2.2.2.2.2.2.2.2.2.2.2.2.2.2.2.2.2.2.2.2.2.2.2.2.2.2.2.2.2.2.1
theorem F_MD_text_189 : Jvm.Free.DS.Facts prog_12_method_21_code 189 [(.getfield 144, 3), (.putfield 204, 3), (.aload_n 0, 1), (.aload_n 0, 1), (.getfield 195, 3), (.putfield 207, 3), (.aload_n 0, 1), (.iconst 0, 1), (.putfield 71, 3), (.aload_n 0, 1), (.getfield 207, 3), (.ireturn, 1)] := Jvm.Free.DS.facts 189 _ (by decide +kernel) (by decide +kernel)
theorem d_MD_text_189 : decode prog_12_method_21_code 189 = .ok (.getfield 144, 3) := F_MD_text_189.1
theorem d_MD_text_192 : decode prog_12_method_21_code 192 = .ok (.putfield 204, 3) := F_MD_text_189.2.1
theorem d_MD_text_195 : decode prog_12_method_21_code 195 = .ok (.aload_n 0, 1) := F_MD_text_189.2.2.1
theorem d_MD_text_196 : decode prog_12_method_21_code 196 = .ok (.aload_n 0, 1) := F_MD_text_189.2.2.2.1
theorem d_MD_text_197 : decode prog_12_method_21_code 197 = .ok (.getfield 195, 3) := F_MD_text_189.2.2.2.2.1
theorem d_MD_text_200 : decode prog_12_method_21_code 200 = .ok (.putfield 207, 3) := F_MD_text_189.2.2.2.2.2.1
theorem d_MD_text_203 : decode prog_12_method_21_code 203 = .ok (.aload_n 0, 1) := F_MD_text_189.2.2.2.2.2.2.1
theorem d_MD_text_204 : decode prog_12_method_21_code 204 = .ok (.iconst 0, 1) := F_MD_text_189.2.2.2.2.2.2.2.1
theorem d_MD_text_205 : decode prog_12_method_21_code 205 = .ok (.putfield 71, 3) := F_MD_text_189.2.2.2.2.2.2.2.2.1
theorem d_MD_text_208 : decode prog_12_method_21_code 208 = .ok (.aload_n 0, 1) := F_MD_text_189.2.2.2.2.2.2.2.2.2.1
theorem d_MD_text_209 : decode prog_12_method_21_code 209 = .ok (.getfield 207, 3) := F_MD_text_189.2.2.2.2.2.2.2.2.2.2.1
theorem d_MD_text_212 : decode prog_12_method_21_code 212 = .ok (.ireturn, 1) := F_MD_text_189.2.2.2.2.2.2.2.2.2.2.2.1
theorem F_Tape_hasRoomFor_0 : Jvm.Free.DS.Facts prog_10_method_2_code 0 [(.aload_n 0, 1), (.getfield 15, 3), (.iload_n 1, 1), (.iadd, 1), (.sipush (900), 3), (.if_icmp .gt (7), 3), (.iconst 1, 1), (.goto (4), 3)] := Jvm.Free.DS.facts 0 _ (by decide +kernel) (by decide +kernel)
theorem d_Tape_hasRoomFor_0 : decode prog_10_method_2_code 0 = .ok (.aload_n 0, 1) := F_Tape_hasRoomFor_0.1
theorem d_Tape_hasRoomFor_1 : decode prog_10_method_2_code 1 = .ok (.getfield 15, 3) := F_Tape_hasRoomFor_0.2.1
theorem d_Tape_hasRoomFor_4 : decode prog_10_method_2_code 4 = .ok (.iload_n 1, 1) := F_Tape_hasRoomFor_0.2.2.1
theorem d_Tape_hasRoomFor_5 : decode prog_10_method_2_code 5 = .ok (.iadd, 1) := F_Tape_hasRoomFor_0.2.2.2.1
theorem d_Tape_hasRoomFor_6 : decode prog_10_method_2_code 6 = .ok (.sipush (900), 3) := F_Tape_hasRoomFor_0.2.2.2.2.1
theorem d_Tape_hasRoomFor_9 : decode prog_10_method_2_code 9 = .ok (.if_icmp .gt (7), 3) := F_Tape_hasRoomFor_0.2.2.2.2.2.1
theorem d_Tape_hasRoomFor_12 : decode prog_10_method_2_code 12 = .ok (.iconst 1, 1) := F_Tape_hasRoomFor_0.2.2.2.2.2.2.1
theorem d_Tape_hasRoomFor_13 : decode prog_10_method_2_code 13 = .ok (.goto (4), 3) := F_Tape_hasRoomFor_0.2.2.2.2.2.2.2.1
theorem F_Tape_hasRoomFor_17 : Jvm.Free.DS.Facts prog_10_method_2_code 17 [(.ireturn, 1)] := Jvm.Free.DS.facts 17 _ (by decide +kernel) (by decide +kernel)
theorem d_Tape_hasRoomFor_17 : decode prog_10_method_2_code 17 = .ok (.ireturn, 1) := F_Tape_hasRoomFor_17.1
theorem F_Tape_put_0 : Jvm.Free.DS.Facts prog_10_method_3_code 0 [(.bipush (24), 2), (.istore_n 2, 1), (.iload_n 2, 1), (.ifCond .lt (45), 3), (.aload_n 0, 1), (.getfield 15, 3), (.sipush (900), 3), (.if_icmp .ge (35), 3), (.aload_n 0, 1), (.getfield 9, 3), (.aload_n 0, 1), (.getfield 15, 3), (.iload_n 1, 1), (.iload_n 2, 1), (.iushr, 1), (.sipush (255), 3), (.iand, 1), (.iastore, 1), (.aload_n 0, 1), (.dup, 1), (.getfield 15, 3), (.iconst 1, 1), (.iadd, 1), (.putfield 15, 3), (.iinc 2 (-8), 3), (.goto (-43), 3), (.return_, 1)] := Jvm.Free.DS.facts 0 _ (by decide +kernel) (by decide +kernel)
theorem d_Tape_put_0 : decode prog_10_method_3_code 0 = .ok (.bipush (24), 2) := F_Tape_put_0.1
theorem d_Tape_put_2 : decode prog_10_method_3_code 2 = .ok (.istore_n 2, 1) := F_Tape_put_0.2.1
theorem d_Tape_put_3 : decode prog_10_method_3_code 3 = .ok (.iload_n 2, 1) := F_Tape_put_0.2.2.1
theorem d_Tape_put_4 : decode prog_10_method_3_code 4 = .ok (.ifCond .lt (45), 3) := F_Tape_put_0.2.2.2.1
theorem d_Tape_put_7 : decode prog_10_method_3_code 7 = .ok (.aload_n 0, 1) := F_Tape_put_0.2.2.2.2.1
theorem d_Tape_put_8 : decode prog_10_method_3_code 8 = .ok (.getfield 15, 3) := F_Tape_put_0.2.2.2.2.2.1
theorem d_Tape_put_11 : decode prog_10_method_3_code 11 = .ok (.sipush (900), 3) := F_Tape_put_0.2.2.2.2.2.2.1
theorem d_Tape_put_14 : decode prog_10_method_3_code 14 = .ok (.if_icmp .ge (35), 3) := F_Tape_put_0.2.2.2.2.2.2.2.1
theorem d_Tape_put_17 : decode prog_10_method_3_code 17 = .ok (.aload_n 0, 1) := F_Tape_put_0.2.2.2.2.2.2.2.2.1
theorem d_Tape_put_18 : decode prog_10_method_3_code 18 = .ok (.getfield 9, 3) := F_Tape_put_0.2.2.2.2.2.2.2.2.2.1
theorem d_Tape_put_21 : decode prog_10_method_3_code 21 = .ok (.aload_n 0, 1) := F_Tape_put_0.2.2.2.2.2.2.2.2.2.2.1
theorem d_Tape_put_22 : decode prog_10_method_3_code 22 = .ok (.getfield 15, 3) := F_Tape_put_0.2.2.2.2.2.2.2.2.2.2.2.1
theorem d_Tape_put_25 : decode prog_10_method_3_code 25 = .ok (.iload_n 1, 1) := F_Tape_put_0.2.2.2.2.2.2.2.2.2.2.2.2.1
theorem d_Tape_put_26 : decode prog_10_method_3_code 26 = .ok (.iload_n 2, 1) := F_Tape_put_0.2.2.2.2.2.2.2.2.2.2.2.2.2.1
theorem d_Tape_put_27 : decode prog_10_method_3_code 27 = .ok (.iushr, 1) := F_Tape_put_0.2.2.2.2.2.2.2.2.2.2.2.2.2.2.1
theorem d_Tape_put_28 : decode prog_10_method_3_code 28 = .ok (.sipush (255), 3) := F_Tape_put_0.2.2.2.2.2.2.2.2.2.2.2.2.2.2.2.1
theorem d_Tape_put_31 : decode prog_10_method_3_code 31 = .ok (.iand, 1) := F_Tape_put_0.2.2.2.2.2.2.2.2.2.2.2.2.2.2.2.2.1
theorem d_Tape_put_32 : decode prog_10_method_3_code 32 = .ok (.iastore, 1) := F_Tape_put_0.2.2.2.2.2.2.2.2.2.2.2.2.2.2.2.2.2.1
theorem d_Tape_put_33 : decode prog_10_method_3_code 33 = .ok (.aload_n 0, 1) := F_Tape_put_0.2.2.2.2.2.2.2.2.2.2.2.2.2.2.2.2.2.2.1
theorem d_Tape_put_34 : decode prog_10_method_3_code 34 = .ok (.dup, 1) := F_Tape_put_0.2.2.2.2.2.2.2.2.2.2.2.2.2.2.2.2.2.2.2.1
theorem d_Tape_put_35 : decode prog_10_method_3_code 35 = .ok (.getfield 15, 3) := F_Tape_put_0.2.2.2.2.2.2.2.2.2.2.2.2.2.2.2.2.2.2.2.2.1
theorem d_Tape_put_38 : decode prog_10_method_3_code 38 = .ok (.iconst 1, 1) := F_Tape_put_0.2.2.2.2.2.2.2.2.2.2.2.2.2.2.2.2.2.2.2.2.2.1
theorem d_Tape_put_39 : decode prog_10_method_3_code 39 = .ok (.iadd, 1) := F_Tape_put_0.2.2.2.2.2.2.2.2.2.2.2.2.2.2.2.2.2.2.2.2.2.2.1
theorem d_Tape_put_40 : decode prog_10_method_3_code 40 = .ok (.putfield 15, 3) := F_Tape_put_0.2.2.2.2.2.2.2.2.2.2.2.2.2.2.2.2.2.2.2.2.2.2.2.1
theorem d_Tape_put_43 : decode prog_10_method_3_code 43 = .ok (.iinc 2 (-8), 3) := F_Tape_put_0.2.2.2.2.2.2.2.2.2.2.2.2.2.2.2.2.2.2.2.2.2.2.2.2.1
theorem d_Tape_put_46 : decode prog_10_method_3_code 46 = .ok (.goto (-43), 3) := F_Tape_put_0.2.2.2.2.2.2.2.2.2.2.2.2.2.2.2.2.2.2.2.2.2.2.2.2.2.1
theorem d_Tape_put_49 : decode prog_10_method_3_code 49 = .ok (.return_, 1) := F_Tape_put_0.2.2.2.2.2.2.2.2.2.2.2.2.2.2.2.2.2.2.2.2.2.2.2.2.2.2.1
theorem F_CM_feed_9 : Jvm.Free.DS.Facts prog_1_method_2_code 9 [(.ifCond .ne (5), 3)] := Jvm.Free.DS.facts 9 _ (by decide +kernel) (by decide +kernel)
theorem d_CM_feed_9 : decode prog_1_method_2_code 9 = .ok (.ifCond .ne (5), 3) := F_CM_feed_9.1
theorem F_CM_feed_14 : Jvm.Free.DS.Facts prog_1_method_2_code 14 [(.aload_n 0, 1), (.getfield 24, 3), (.iload_n 1, 1), (.invokevirtual 103, 3), (.aload_n 0, 1), (.getfield 24, 3), (.iload_n 2, 1), (.invokevirtual 103, 3), (.aload_n 0, 1), (.getfield 24, 3), (.iload_n 3, 1), (.invokevirtual 103, 3), (.aload_n 0, 1), (.getfield 24, 3), (.iload 4, 2), (.invokevirtual 103, 3), (.aload_n 0, 1), (.getfield 24, 3), (.iload 5, 2), (.invokevirtual 103, 3), (.aload_n 0, 1), (.getfield 24, 3), (.getfield 107, 3), (.ireturn, 1)] := Jvm.Free.DS.facts 14 _ (by decide +kernel) (by decide +kernel)
theorem d_CM_feed_14 : decode prog_1_method_2_code 14 = .ok (.aload_n 0, 1) := F_CM_feed_14.1
theorem d_CM_feed_15 : decode prog_1_method_2_code 15 = .ok (.getfield 24, 3) := F_CM_feed_14.2.1
theorem d_CM_feed_18 : decode prog_1_method_2_code 18 = .ok (.iload_n 1, 1) := F_CM_feed_14.2.2.1
theorem d_CM_feed_19 : decode prog_1_method_2_code 19 = .ok (.invokevirtual 103, 3) := F_CM_feed_14.2.2.2.1
theorem d_CM_feed_22 : decode prog_1_method_2_code 22 = .ok (.aload_n 0, 1) := F_CM_feed_14.2.2.2.2.1
theorem d_CM_feed_23 : decode prog_1_method_2_code 23 = .ok (.getfield 24, 3) := F_CM_feed_14.2.2.2.2.2.1
theorem d_CM_feed_26 : decode prog_1_method_2_code 26 = .ok (.iload_n 2, 1) := F_CM_feed_14.2.2.2.2.2.2.1
theorem d_CM_feed_27 : decode prog_1_method_2_code 27 = .ok (.invokevirtual 103, 3) := F_CM_feed_14.2.2.2.2.2.2.2.1
theorem d_CM_feed_30 : decode prog_1_method_2_code 30 = .ok (.aload_n 0, 1) := F_CM_feed_14.2.2.2.2.2.2.2.2.1
theorem d_CM_feed_31 : decode prog_1_method_2_code 31 = .ok (.getfield 24, 3) := F_CM_feed_14.2.2.2.2.2.2.2.2.2.1
theorem d_CM_feed_34 : decode prog_1_method_2_code 34 = .ok (.iload_n 3, 1) := F_CM_feed_14.2.2.2.2.2.2.2.2.2.2.1
theorem d_CM_feed_35 : decode prog_1_method_2_code 35 = .ok (.invokevirtual 103, 3) := F_CM_feed_14.2.2.2.2.2.2.2.2.2.2.2.1
theorem d_CM_feed_38 : decode prog_1_method_2_code 38 = .ok (.aload_n 0, 1) := F_CM_feed_14.2.2.2.2.2.2.2.2.2.2.2.2.1
theorem d_CM_feed_39 : decode prog_1_method_2_code 39 = .ok (.getfield 24, 3) := F_CM_feed_14.2.2.2.2.2.2.2.2.2.2.2.2.2.1
theorem d_CM_feed_42 : decode prog_1_method_2_code 42 = .ok (.iload 4, 2) := F_CM_feed_14.2.2.2.2.2.2.2.2.2.2.2.2.2.2.1
theorem d_CM_feed_44 : decode prog_1_method_2_code 44 = .ok (.invokevirtual 103, 3) := F_CM_feed_14.2.2.2.2.2.2.2.2.2.2.2.2.2.2.2.1
theorem d_CM_feed_47 : decode prog_1_method_2_code 47 = .ok (.aload_n 0, 1) := F_CM_feed_14.2.2.2.2.2.2.2.2.2.2.2.2.2.2.2.2.1
theorem d_CM_feed_48 : decode prog_1_method_2_code 48 = .ok (.getfield 24, 3) := F_CM_feed_14.2.2.2.2.2.2.2.2.2.2.2.2.2.2.2.2.2.1
theorem d_CM_feed_51 : decode prog_1_method_2_code 51 = .ok (.iload 5, 2) := F_CM_feed_14.2.2.2.2.2.2.2.2.2.2.2.2.2.2.2.2.2.2.1
theorem d_CM_feed_53 : decode prog_1_method_2_code 53 = .ok (.invokevirtual 103, 3) := F_CM_feed_14.2.2.2.2.2.2.2.2.2.2.2.2.2.2.2.2.2.2.2.1
theorem d_CM_feed_56 : decode prog_1_method_2_code 56 = .ok (.aload_n 0, 1) := F_CM_feed_14.2.2.2.2.2.2.2.2.2.2.2.2.2.2.2.2.2.2.2.2.1
theorem d_CM_feed_57 : decode prog_1_method_2_code 57 = .ok (.getfield 24, 3) := F_CM_feed_14.2.2.2.2.2.2.2.2.2.2.2.2.2.2.2.2.2.2.2.2.2.1
theorem d_CM_feed_60 : decode prog_1_method_2_code 60 = .ok (.getfield 107, 3) := F_CM_feed_14.2.2.2.2.2.2.2.2.2.2.2.2.2.2.2.2.2.2.2.2.2.2.1
theorem d_CM_feed_63 : decode prog_1_method_2_code 63 = .ok (.ireturn, 1) := F_CM_feed_14.2.2.2.2.2.2.2.2.2.2.2.2.2.2.2.2.2.2.2.2.2.2.2.1
theorem F_MD_feed_37 : Jvm.Free.DS.Facts prog_12_method_3_code 37 [(.iload 6, 2), (.bipush (8), 2), (.if_icmp .ge (7), 3), (.iload_n 2, 1), (.goto (28), 3), (.iload 6, 2), (.bipush (12), 2), (.if_icmp .ge (7), 3), (.iload_n 3, 1), (.goto (17), 3), (.iload 6, 2), (.bipush (16), 2), (.if_icmp .ge (8), 3), (.iload 4, 2), (.goto (5), 3), (.iload 5, 2)] := Jvm.Free.DS.facts 37 _ (by decide +kernel) (by decide +kernel)
theorem d_MD_feed_37 : decode prog_12_method_3_code 37 = .ok (.iload 6, 2) := F_MD_feed_37.1
theorem d_MD_feed_39 : decode prog_12_method_3_code 39 = .ok (.bipush (8), 2) := F_MD_feed_37.2.1
theorem d_MD_feed_41 : decode prog_12_method_3_code 41 = .ok (.if_icmp .ge (7), 3) := F_MD_feed_37.2.2.1
theorem d_MD_feed_44 : decode prog_12_method_3_code 44 = .ok (.iload_n 2, 1) := F_MD_feed_37.2.2.2.1
theorem d_MD_feed_45 : decode prog_12_method_3_code 45 = .ok (.goto (28), 3) := F_MD_feed_37.2.2.2.2.1
theorem d_MD_feed_48 : decode prog_12_method_3_code 48 = .ok (.iload 6, 2) := F_MD_feed_37.2.2.2.2.2.1
theorem d_MD_feed_50 : decode prog_12_method_3_code 50 = .ok (.bipush (12), 2) := F_MD_feed_37.2.2.2.2.2.2.1
theorem d_MD_feed_52 : decode prog_12_method_3_code 52 = .ok (.if_icmp .ge (7), 3) := F_MD_feed_37.2.2.2.2.2.2.2.1
theorem d_MD_feed_55 : decode prog_12_method_3_code 55 = .ok (.iload_n 3, 1) := F_MD_feed_37.2.2.2.2.2.2.2.2.1
theorem d_MD_feed_56 : decode prog_12_method_3_code 56 = .ok (.goto (17), 3) := F_MD_feed_37.2.2.2.2.2.2.2.2.2.1
theorem d_MD_feed_59 : decode prog_12_method_3_code 59 = .ok (.iload 6, 2) := F_MD_feed_37.2.2.2.2.2.2.2.2.2.2.1
theorem d_MD_feed_61 : decode prog_12_method_3_code 61 = .ok (.bipush (16), 2) := F_MD_feed_37.2.2.2.2.2.2.2.2.2.2.2.1
theorem d_MD_feed_63 : decode prog_12_method_3_code 63 = .ok (.if_icmp .ge (8), 3) := F_MD_feed_37.2.2.2.2.2.2.2.2.2.2.2.2.1
theorem d_MD_feed_66 : decode prog_12_method_3_code 66 = .ok (.iload 4, 2) := F_MD_feed_37.2.2.2.2.2.2.2.2.2.2.2.2.2.1
theorem d_MD_feed_68 : decode prog_12_method_3_code 68 = .ok (.goto (5), 3) := F_MD_feed_37.2.2.2.2.2.2.2.2.2.2.2.2.2.2.1
theorem d_MD_feed_71 : decode prog_12_method_3_code 71 = .ok (.iload 5, 2) := F_MD_feed_37.2.2.2.2.2.2.2.2.2.2.2.2.2.2.2.1
theorem F_MD_feed_96 : Jvm.Free.DS.Facts prog_12_method_3_code 96 [(.imul, 1), (.isub, 1), (.ishr, 1), (.sipush (255), 3), (.iand, 1), (.iastore, 1), (.iinc 6 (1), 3), (.goto (-87), 3), (.aload_n 0, 1), (.dup, 1), (.getfield 77, 3), (.bipush (20), 2), (.iadd, 1), (.putfield 77, 3), (.aload_n 0, 1), (.getfield 77, 3), (.ireturn, 1)] := Jvm.Free.DS.facts 96 _ (by decide +kernel) (by decide +kernel)
theorem d_MD_feed_96 : decode prog_12_method_3_code 96 = .ok (.imul, 1) := F_MD_feed_96.1
theorem d_MD_feed_97 : decode prog_12_method_3_code 97 = .ok (.isub, 1) := F_MD_feed_96.2.1
theorem d_MD_feed_98 : decode prog_12_method_3_code 98 = .ok (.ishr, 1) := F_MD_feed_96.2.2.1
theorem d_MD_feed_99 : decode prog_12_method_3_code 99 = .ok (.sipush (255), 3) := F_MD_feed_96.2.2.2.1
theorem d_MD_feed_102 : decode prog_12_method_3_code 102 = .ok (.iand, 1) := F_MD_feed_96.2.2.2.2.1
theorem d_MD_feed_103 : decode prog_12_method_3_code 103 = .ok (.iastore, 1) := F_MD_feed_96.2.2.2.2.2.1
theorem d_MD_feed_104 : decode prog_12_method_3_code 104 = .ok (.iinc 6 (1), 3) := F_MD_feed_96.2.2.2.2.2.2.1
theorem d_MD_feed_107 : decode prog_12_method_3_code 107 = .ok (.goto (-87), 3) := F_MD_feed_96.2.2.2.2.2.2.2.1
theorem d_MD_feed_110 : decode prog_12_method_3_code 110 = .ok (.aload_n 0, 1) := F_MD_feed_96.2.2.2.2.2.2.2.2.1
theorem d_MD_feed_111 : decode prog_12_method_3_code 111 = .ok (.dup, 1) := F_MD_feed_96.2.2.2.2.2.2.2.2.2.1
theorem d_MD_feed_112 : decode prog_12_method_3_code 112 = .ok (.getfield 77, 3) := F_MD_feed_96.2.2.2.2.2.2.2.2.2.2.1
theorem d_MD_feed_115 : decode prog_12_method_3_code 115 = .ok (.bipush (20), 2) := F_MD_feed_96.2.2.2.2.2.2.2.2.2.2.2.1
theorem d_MD_feed_117 : decode prog_12_method_3_code 117 = .ok (.iadd, 1) := F_MD_feed_96.2.2.2.2.2.2.2.2.2.2.2.2.1
theorem d_MD_feed_118 : decode prog_12_method_3_code 118 = .ok (.putfield 77, 3) := F_MD_feed_96.2.2.2.2.2.2.2.2.2.2.2.2.2.1
theorem d_MD_feed_121 : decode prog_12_method_3_code 121 = .ok (.aload_n 0, 1) := F_MD_feed_96.2.2.2.2.2.2.2.2.2.2.2.2.2.2.1
theorem d_MD_feed_122 : decode prog_12_method_3_code 122 = .ok (.getfield 77, 3) := F_MD_feed_96.2.2.2.2.2.2.2.2.2.2.2.2.2.2.2.1
theorem d_MD_feed_125 : decode prog_12_method_3_code 125 = .ok (.ireturn, 1) := F_MD_feed_96.2.2.2.2.2.2.2.2.2.2.2.2.2.2.2.2.1
theorem z_Plane_clear {G : pG} {w : pW} (hC : Has cfL w.2) : PM G M_Plane_clear 0 0 0 [.ref 77] w (fun r w' => r = none ∧ w' = w) := by
  refine PM_of pn_Plane_clear (le_b rfl) ?_
  show PW _ _ _ _ _ _ (0, [(0, .ref 77)], [], w)
  refine P_aload_n d_Plane_clear_0 rfl ?_
  refine P_iconst (v := 0) d_Plane_clear_1 (by decide) ?_
  refine P_putS (i := 3) d_Plane_clear_2 ok_Plane (by decide) rfl L_Plane_26 (fa hC 30 rfl) (fun _ => rfl) (fun _ => rfl) rfl ?_
  refine P_aload_n d_Plane_clear_5 rfl ?_
  refine P_iconst (v := 0) d_Plane_clear_6 (by decide) ?_
  refine P_putS (i := 4) d_Plane_clear_7 ok_Plane (by decide) rfl L_Plane_30 (fa hC 30 rfl) (fun _ => rfl) (fun _ => rfl) rfl ?_
  refine P_aload_n d_Plane_clear_10 rfl ?_
  refine P_iconst (v := 0) d_Plane_clear_11 (by decide) ?_
  refine P_putS (i := 5) d_Plane_clear_12 ok_Plane (by decide) rfl L_Plane_33 (fa hC 30 rfl) (fun _ => rfl) (fun _ => rfl) rfl ?_
  refine P_aload_n d_Plane_clear_15 rfl ?_
  refine P_iconst (v := 0) d_Plane_clear_16 (by decide) ?_
  refine P_putS (i := 6) d_Plane_clear_17 ok_Plane (by decide) rfl L_Plane_36 (fa hC 30 rfl) (fun _ => rfl) (fun _ => rfl) rfl ?_
  exact P_vret d_Plane_clear_20 rfl (le_b rfl) (le_b rfl) ⟨rfl, rfl⟩
theorem z_Reader_next {G : pG} {w : pW} (hC : Has cfL w.2) : PM G M_Reader_next 0 0 0 [.ref 164] w (fun r w' => r = none ∧ w' = w) := by
  refine PM_of pn_Reader_next (le_b rfl) ?_
  show PW _ _ _ _ _ _ (0, [(0, .ref 164)], [], w)
  refine P_aload_n d_Reader_next_0 rfl ?_
  refine P_getf (i := 8) d_Reader_next_1 ok_Reader (by decide) L_Reader_60 (fa hC 9 rfl) rfl ?_
  refine P_aload_n d_Reader_next_4 rfl ?_
  refine P_getf (i := 7) d_Reader_next_5 ok_Reader (by decide) L_Reader_57 (fa hC 9 rfl) rfl ?_
  refine P_icmp_ge 42 d_Reader_next_8 (by decide) (fun _ => ?_) (fun h => absurd (by decide) h)
  refine P_aload_n d_Reader_next_42 rfl ?_
  refine P_aload_n d_Reader_next_43 rfl ?_
  refine P_getf (i := 8) d_Reader_next_44 ok_Reader (by decide) L_Reader_60 (fa hC 9 rfl) rfl ?_
  refine P_putS (i := 10) d_Reader_next_47 ok_Reader (by decide) rfl L_Reader_167 (fa hC 9 rfl) (fun _ => rfl) (fun _ => rfl) rfl ?_
  refine P_aload_n d_Reader_next_50 rfl ?_
  refine P_iconst (v := 0) d_Reader_next_51 (by decide) ?_
  refine P_putS (i := 11) d_Reader_next_52 ok_Reader (by decide) rfl L_Reader_164 (fa hC 9 rfl) (fun _ => rfl) (fun _ => rfl) rfl ?_
  refine P_aload_n d_Reader_next_55 rfl ?_
  refine P_getf (i := 8) d_Reader_next_56 ok_Reader (by decide) L_Reader_60 (fa hC 9 rfl) rfl ?_
  refine P_aload_n d_Reader_next_59 rfl ?_
  refine P_getf (i := 7) d_Reader_next_60 ok_Reader (by decide) L_Reader_57 (fa hC 9 rfl) rfl ?_
  refine P_icmp_lt 74 d_Reader_next_63 (by decide) (fun h => absurd h (by decide)) (fun _ => ?_)
  refine P_aload_n d_Reader_next_66 rfl ?_
  refine P_iconst (v := 0) d_Reader_next_67 (by decide) ?_
  refine P_putS (i := 9) d_Reader_next_68 ok_Reader (by decide) rfl L_Reader_69 (fa hC 9 rfl) (fun _ => rfl) (fun _ => rfl) rfl ?_
  refine P_goto 140 d_Reader_next_71 (by decide) ?_
  exact P_vret d_Reader_next_140 rfl (le_b rfl) (le_b rfl) ⟨rfl, rfl⟩
theorem z_Reader_read {G : pG} {w : pW} (hC : Has cfL w.2) : PM G M_Reader_read 1 0 0 [.ref 164, .int 0, .ref 77] w (fun r w' => r = some (.int 1) ∧ w' = w) := by
  refine PM_of pn_Reader_read (le_b rfl) ?_
  show PW _ _ _ _ _ _ (0, [(0, .ref 164), (1, .int 0), (2, .ref 77)], [], w)
  refine P_aload_n d_Reader_read_0 rfl ?_
  refine P_aload_n d_Reader_read_1 rfl ?_
  refine P_putS (i := 6) d_Reader_read_2 ok_Reader (by decide) rfl L_Reader_37 (fa hC 9 rfl) (fun _ => rfl) (fun _ => rfl) rfl ?_
  refine P_aload_n d_Reader_read_5 rfl ?_
  refine P_getf (i := 6) d_Reader_read_6 ok_Reader (by decide) L_Reader_37 (fa hC 9 rfl) rfl ?_
  refine P_callV (M := M_Reader_read) (pc := 9) (as := []) (b := 77) d_Reader_read_9 co_Plane_clear ok_Plane (fa hC 30 rfl) L_Reader_41 im_Plane_clear se_Plane_clear (z_Plane_clear hC) rfl ⟨by decide, by decide⟩ ⟨by decide, by decide⟩ (by exact le_b rfl) ?_ _ rfl
  rintro _ u ⟨rfl, eu⟩
  subst u
  show PW _ _ _ _ _ _ (12, _, [], _)
  refine P_aload_n d_Reader_read_12 rfl ?_
  refine P_iload_n d_Reader_read_13 rfl ?_
  refine P_aload_n d_Reader_read_14 rfl ?_
  refine P_getf (i := 0) d_Reader_read_15 ok_Reader (by decide) L_Reader_29 (fa hC 9 rfl) rfl ?_
  refine P_getfN (i := 1) d_Reader_read_18 ok_Tape (by decide) L_Reader_46 (fa hC 1 rfl) rfl ?_
  refine P_mmini d_Reader_read_21 L_Reader_51 st_min in_Math cd_min ⟨le_b rfl, le_b rfl, le_b rfl, le_b rfl⟩ (by decide) ?_
  rw [ite_self]
  show PW _ _ _ _ _ _ (24, [(0, .ref 164), (1, .int 0), (2, .ref 77)], [.int 0, .ref 164], w)
  refine P_putS (i := 7) d_Reader_read_24 ok_Reader (by decide) rfl L_Reader_57 (fa hC 9 rfl) (fun _ => rfl) (fun _ => rfl) rfl ?_
  refine P_aload_n d_Reader_read_27 rfl ?_
  refine P_iconst (v := 0) d_Reader_read_28 (by decide) ?_
  refine P_putS (i := 8) d_Reader_read_29 ok_Reader (by decide) rfl L_Reader_60 (fa hC 9 rfl) (fun _ => rfl) (fun _ => rfl) rfl ?_
  refine P_aload_n d_Reader_read_32 rfl ?_
  refine P_iconst (v := 0) d_Reader_read_33 (by decide) ?_
  refine P_putS (i := 12) d_Reader_read_34 ok_Reader (by decide) rfl L_Reader_63 (fa hC 9 rfl) (fun _ => rfl) (fun _ => rfl) rfl ?_
  refine P_aload_n d_Reader_read_37 rfl ?_
  refine P_iconst (v := (-1)) d_Reader_read_38 (by decide) ?_
  refine P_putS (i := 13) d_Reader_read_39 ok_Reader (by decide) rfl L_Reader_25 (fa hC 9 rfl) (fun _ => rfl) (fun _ => rfl) rfl ?_
  refine P_aload_n d_Reader_read_42 rfl ?_
  refine P_callV (M := M_Reader_read) (pc := 43) (as := []) (b := 164) d_Reader_read_43 co_Reader_next ok_Reader (fa hC 9 rfl) L_Reader_66 im_Reader_next se_Reader_next (z_Reader_next hC) rfl ⟨by decide, by decide⟩ ⟨by decide, by decide⟩ (by exact le_b rfl) ?_ _ rfl
  rintro _ u ⟨rfl, eu⟩
  subst u
  show PW _ _ _ _ _ _ (46, _, [], _)
  refine P_iconst (v := 1) d_Reader_read_46 (by decide) ?_
  refine P_istore_n d_Reader_read_47 (by decide) rfl ?_
  refine P_iconst (v := 0) d_Reader_read_48 (by decide) ?_
  refine P_istore d_Reader_read_49 (by decide) rfl ?_
  refine P_iload d_Reader_read_51 rfl ?_
  refine P_sipush (v := 900) d_Reader_read_53 (by decide) ?_
  refine P_icmp_ge 147 d_Reader_read_56 (by decide) (fun h => absurd h (by decide)) (fun _ => ?_)
  refine P_iload_n d_Reader_read_59 rfl ?_
  refine P_if_eq 147 d_Reader_read_60 (by decide) (fun h => absurd h (by decide)) (fun _ => ?_)
  refine P_aload_n d_Reader_read_63 rfl ?_
  refine P_getf (i := 9) d_Reader_read_64 ok_Reader (by decide) L_Reader_69 (fa hC 9 rfl) rfl ?_
  refine P_if_eq 147 d_Reader_read_67 (by decide) (fun _ => ?_) (fun h => absurd (by decide) h)
  refine P_iload_n d_Reader_read_147 rfl ?_
  exact P_zret d_Reader_read_148 rfl rfl (le_b rfl) (le_b rfl) ⟨rfl, rfl⟩
theorem z_MD_here {G : pG} {w : pW} (hM : Has mfL w.2) : PM G M_MD_here 0 0 0 [.ref 467] w (fun r w' => r = some (.int (-1)) ∧ w' = w) := by
  refine PM_of pn_MD_here (le_b rfl) ?_
  show PW _ _ _ _ _ _ (0, [(0, .ref 467)], [], w)
  refine P_aload_n d_MD_here_0 rfl ?_
  refine P_getf (i := 16) d_MD_here_1 ok_Model (by decide) L_MD_80 (fa hM 18 rfl) rfl ?_
  refine P_aload_n d_MD_here_4 rfl ?_
  refine P_getf (i := 15) d_MD_here_5 ok_Model (by decide) L_MD_83 (fa hM 18 rfl) rfl ?_
  refine P_icmp_ge 23 d_MD_here_8 (by decide) (fun _ => ?_) (fun h => absurd (by decide) h)
  refine P_iconst (v := (-1)) d_MD_here_23 (by decide) ?_
  exact P_iret d_MD_here_24 rfl (le_b rfl) (le_b rfl) ⟨rfl, rfl⟩
theorem z_CM_text_out {G : pG} {w : pW} (hC : Has cfL w.2) {a1 : Int32} (ho : ¬ (0 ≤ a1 ∧ a1 ≤ 0)) : PM G M_CM_text 2 0 0 [.ref 0, .int a1] w (fun r w' => r = some (.int (-2)) ∧ w'.1 = w.1 ∧ ∀ i, 467 ≤ i → w'.2 i = w.2 i) := by
  refine PM_of pn_CM_text (le_b rfl) ?_
  show PW _ _ _ _ _ _ (0, [(0, .ref 0), (1, .int a1)], [], w)
  refine P_iload_n d_CM_text_0 rfl ?_
  refine P_if_lt 15 d_CM_text_1 (by decide) (fun c1 => ?_) (fun c1 => ?_)
  · refine P_bipush (v := (-2)) d_CM_text_15 (by decide) ?_
    exact P_iret d_CM_text_17 rfl (le_b rfl) (le_b rfl) ⟨rfl, rfl, fun i hi => rfl⟩
  · refine P_iload_n d_CM_text_4 rfl ?_
    refine P_aload_n d_CM_text_5 rfl ?_
    refine P_getf (i := 2) d_CM_text_6 ok_CM (by decide) L_CM_24 (fa hC 28 rfl) rfl ?_
    refine P_getfN (i := 1) d_CM_text_9 ok_Tape (by decide) L_CM_107 (fa hC 1 rfl) rfl ?_
    refine P_icmp_le 18 d_CM_text_12 (by decide) (fun c2 => by exfalso; simp only [Int32.lt_iff_toInt_lt, Int32.le_iff_toInt_le, ← Int32.toInt_inj, Int32.reduceToInt] at ho c1 c2; omega) (fun c2 => ?_)
    refine P_bipush (v := (-2)) d_CM_text_15 (by decide) ?_
    exact P_iret d_CM_text_17 rfl (le_b rfl) (le_b rfl) ⟨rfl, rfl, fun i hi => rfl⟩
theorem z_MD_token {G : pG} {w : pW} (hM : Has mfL w.2) : PM G M_MD_token 1 0 0 [.ref 467] w (fun r w' => r = none ∧ w' = (w.1, wu w.2 467 (.inr (9, [.int 0, .ref 468, .int 0, .ref 469, .ref 470, .int 0, .int 0, .ref 471, .ref 472, .ref 473, .int 0, .int 0, .int 0, .ref 474, .ref 475, .int 0, .int 0, .int 0, .int 3, .int 0, .int 0, .int 0, .int 0, .int 0, .int (-1), .ref 476, .ref 477, .ref 478, .ref 479, .ref 480, .ref 481, .ref 482, .ref 483, .int 0, .ref 484, .int 0, .ref 485, .int 0])))) := by
  refine PM_of pn_MD_token (le_b rfl) ?_
  show PW _ _ _ _ _ _ (0, [(0, .ref 467)], [], w)
  refine P_aload_n d_MD_token_0 rfl ?_
  refine P_callV (M := M_MD_token) (pc := 1) (as := []) (b := 467) d_MD_token_1 co_MD_here ok_Model (fa hM 18 rfl) L_MD_86 im_MD_here se_MD_here (z_MD_here hM) rfl ⟨by decide, by decide⟩ ⟨by decide, by decide⟩ (by exact le_b rfl) ?_ _ rfl
  rintro _ u ⟨rfl, eu⟩
  subst u
  show PW _ _ _ _ _ _ (4, _, [.int (-1)], _)
  refine P_bipush (v := 10) d_MD_token_4 (by decide) ?_
  refine P_icmp_eq 18 d_MD_token_6 (by decide) (fun h => absurd h (by decide)) (fun _ => ?_)
  refine P_aload_n d_MD_token_9 rfl ?_
  refine P_callV (M := M_MD_token) (pc := 10) (as := []) (b := 467) d_MD_token_10 co_MD_here ok_Model (fa hM 18 rfl) L_MD_86 im_MD_here se_MD_here (z_MD_here hM) rfl ⟨by decide, by decide⟩ ⟨by decide, by decide⟩ (by exact le_b rfl) ?_ _ rfl
  rintro _ u ⟨rfl, eu⟩
  subst u
  show PW _ _ _ _ _ _ (13, _, [.int (-1)], _)
  refine P_bipush (v := 32) d_MD_token_13 (by decide) ?_
  refine P_icmp_ne 31 d_MD_token_15 (by decide) (fun _ => ?_) (fun h => absurd h (by decide))
  refine P_aload_n d_MD_token_31 rfl ?_
  refine P_aload_n d_MD_token_32 rfl ?_
  refine P_getf (i := 16) d_MD_token_33 ok_Model (by decide) L_MD_80 (fa hM 18 rfl) rfl ?_
  refine P_putS (i := 17) d_MD_token_36 ok_Model (by decide) rfl L_MD_90 (fa hM 18 rfl) (fun _ => rfl) (fun _ => rfl) rfl ?_
  refine P_aload_n d_MD_token_39 rfl ?_
  refine P_callV (M := M_MD_token) (pc := 40) (as := []) (b := 467) d_MD_token_40 co_MD_here ok_Model (fa hM 18 rfl) L_MD_86 im_MD_here se_MD_here (z_MD_here hM) rfl ⟨by decide, by decide⟩ ⟨by decide, by decide⟩ (by exact le_b rfl) ?_ _ rfl
  rintro _ u ⟨rfl, eu⟩
  subst u
  show PW _ _ _ _ _ _ (43, _, [.int (-1)], _)
  refine P_istore_n d_MD_token_43 (by decide) rfl ?_
  refine P_iload_n d_MD_token_44 rfl ?_
  refine P_iconst (v := (-1)) d_MD_token_45 (by decide) ?_
  refine P_icmp_ne 57 d_MD_token_46 (by decide) (fun h => absurd (by decide) h) (fun _ => ?_)
  refine P_aload_n d_MD_token_49 rfl ?_
  refine P_iconst (v := 3) d_MD_token_50 (by decide) ?_
  refine P_put (i := 18) d_MD_token_51 ok_Model (by decide) rfl L_MD_93 (fa hM 18 rfl) (fun _ => rfl) (fun _ => rfl) ?_
  show PW _ _ _ _ _ _ (54, [(0, .ref 467), (1, .int (-1))], [], (w.1, wu (w.2) 467 (.inr (9, [.int 0, .ref 468, .int 0, .ref 469, .ref 470, .int 0, .int 0, .ref 471, .ref 472, .ref 473, .int 0, .int 0, .int 0, .ref 474, .ref 475, .int 0, .int 0, .int 0, .int 3, .int 0, .int 0, .int 0, .int 0, .int 0, .int (-1), .ref 476, .ref 477, .ref 478, .ref 479, .ref 480, .ref 481, .ref 482, .ref 483, .int 0, .ref 484, .int 0, .ref 485, .int 0]))))
  refine P_goto 270 d_MD_token_54 (by decide) ?_
  exact P_vret d_MD_token_270 rfl (le_b rfl) (le_b rfl) ⟨rfl, rfl⟩
theorem z_MD_text_out {G : pG} {w : pW} (hM : Has mfL w.2) {a1 : Int32} (ho : ¬ (0 ≤ a1 ∧ a1 ≤ 0)) : PM G M_MD_text 2 0 0 [.ref 467, .int a1] w (fun r w' => r = some (.int (-2)) ∧ True) := by
  refine PM_of pn_MD_text (le_b rfl) ?_
  show PW _ _ _ _ _ _ (0, [(0, .ref 467), (1, .int a1)], [], w)
  refine P_aload_n d_MD_text_0 rfl ?_
  refine P_iconst (v := 0) d_MD_text_1 (by decide) ?_
  refine P_putS (i := 0) d_MD_text_2 ok_Model (by decide) rfl L_MD_74 (fa hM 18 rfl) (fun _ => rfl) (fun _ => rfl) rfl ?_
  refine P_iload_n d_MD_text_5 rfl ?_
  refine P_if_lt 17 d_MD_text_6 (by decide) (fun c1 => ?_) (fun c1 => ?_)
  · refine P_bipush (v := (-2)) d_MD_text_17 (by decide) ?_
    exact P_iret d_MD_text_19 rfl (le_b rfl) (le_b rfl) ⟨rfl, trivial⟩
  · refine P_iload_n d_MD_text_9 rfl ?_
    refine P_aload_n d_MD_text_10 rfl ?_
    refine P_getf (i := 2) d_MD_text_11 ok_Model (by decide) L_MD_77 (fa hM 18 rfl) rfl ?_
    refine P_icmp_le 20 d_MD_text_14 (by decide) (fun c2 => by exfalso; simp only [Int32.lt_iff_toInt_lt, Int32.le_iff_toInt_le, ← Int32.toInt_inj, Int32.reduceToInt] at ho c1 c2; omega) (fun c2 => ?_)
    refine P_bipush (v := (-2)) d_MD_text_17 (by decide) ?_
    exact P_iret d_MD_text_19 rfl (le_b rfl) (le_b rfl) ⟨rfl, trivial⟩
theorem z_Tape_hasRoomFor {G : pG} {w : pW} (h153 : w.2 153 = .inr (2, [.ref 154, .int 0])) : PM G M_Tape_hasRoomFor 0 0 0 [.ref 153, .int 20] w (fun r w' => r = some (.int 1) ∧ w' = w) := by
  refine PM_of pn_Tape_hasRoomFor (le_b rfl) ?_
  show PW _ _ _ _ _ _ (0, [(0, .ref 153), (1, .int 20)], [], w)
  refine P_aload_n d_Tape_hasRoomFor_0 rfl ?_
  refine P_getf (i := 1) d_Tape_hasRoomFor_1 ok_Tape (by decide) L_Tape_15 h153 rfl ?_
  refine P_iload_n d_Tape_hasRoomFor_4 rfl ?_
  refine P_iadd d_Tape_hasRoomFor_5 ?_
  show PW _ _ _ _ _ _ (6, [(0, .ref 153), (1, .int 20)], [.int 20], w)
  refine P_sipush (v := 900) d_Tape_hasRoomFor_6 (by decide) ?_
  refine P_icmp_gt 16 d_Tape_hasRoomFor_9 (by decide) (fun h => absurd h (by decide)) (fun _ => ?_)
  refine P_iconst (v := 1) d_Tape_hasRoomFor_12 (by decide) ?_
  refine P_goto 17 d_Tape_hasRoomFor_13 (by decide) ?_
  exact P_zret d_Tape_hasRoomFor_17 rfl rfl (le_b rfl) (le_b rfl) ⟨rfl, rfl⟩
