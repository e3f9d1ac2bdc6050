section
-- ===== PART A: goes FIRST, ahead of the names: the tables' words, and 'selects' of the private methods out of them =====
/-- a private method of a class that the tables say can be made, by its rows of tables_1 -/
def lw_okq (q : MethodName × Nat) : Prop := (q.1.cls ≠ "java/lang/invoke/MethodHandle" ∧ q.1.cls ≠ "java/lang/invoke/VarHandle") ∧ Cond.instantiable q.1.cls q.2 ∈ tables_1 ∧ Cond.privateMethod q.1 ∈ tables_1 ∧ Cond.instanceMethod q.1 ∈ tables_1
theorem lw_p0 : lw_okq (⟨"CornerMaps$Reader", "next", "()V"⟩, 14) := ⟨⟨by decide +kernel, by decide +kernel⟩, List.mem_of_getElem? (i := 139) (by decide +kernel), List.mem_of_getElem? (i := 349) (by decide +kernel), List.mem_of_getElem? (i := 350) (by decide +kernel)⟩
theorem lw_p1 : lw_okq (⟨"CornerMaps$Reader", "nextWord", "()V"⟩, 14) := ⟨⟨by decide +kernel, by decide +kernel⟩, List.mem_of_getElem? (i := 139) (by decide +kernel), List.mem_of_getElem? (i := 359) (by decide +kernel), List.mem_of_getElem? (i := 360) (by decide +kernel)⟩
theorem lw_p2 : lw_okq (⟨"CornerMaps$Reader", "nextDigits", "()V"⟩, 14) := ⟨⟨by decide +kernel, by decide +kernel⟩, List.mem_of_getElem? (i := 139) (by decide +kernel), List.mem_of_getElem? (i := 366) (by decide +kernel), List.mem_of_getElem? (i := 367) (by decide +kernel)⟩
theorem lw_p3 : lw_okq (⟨"CornerMaps$Reader", "nextSign", "(I)V"⟩, 14) := ⟨⟨by decide +kernel, by decide +kernel⟩, List.mem_of_getElem? (i := 139) (by decide +kernel), List.mem_of_getElem? (i := 371) (by decide +kernel), List.mem_of_getElem? (i := 372) (by decide +kernel)⟩
theorem lw_p4 : lw_okq (⟨"CornerMaps$Reader", "isWord", "(I)Z"⟩, 14) := ⟨⟨by decide +kernel, by decide +kernel⟩, List.mem_of_getElem? (i := 139) (by decide +kernel), List.mem_of_getElem? (i := 376) (by decide +kernel), List.mem_of_getElem? (i := 377) (by decide +kernel)⟩
theorem lw_p5 : lw_okq (⟨"CornerMaps$Reader", "readQuad", "()Z"⟩, 14) := ⟨⟨by decide +kernel, by decide +kernel⟩, List.mem_of_getElem? (i := 139) (by decide +kernel), List.mem_of_getElem? (i := 380) (by decide +kernel), List.mem_of_getElem? (i := 381) (by decide +kernel)⟩
theorem lw_p6 : lw_okq (⟨"CornerMaps$Reader", "refuse", "(I)Z"⟩, 14) := ⟨⟨by decide +kernel, by decide +kernel⟩, List.mem_of_getElem? (i := 139) (by decide +kernel), List.mem_of_getElem? (i := 384) (by decide +kernel), List.mem_of_getElem? (i := 385) (by decide +kernel)⟩
theorem lw_p7 : lw_okq (⟨"CornerMaps$Reader", "refuseAt", "(II)Z"⟩, 14) := ⟨⟨by decide +kernel, by decide +kernel⟩, List.mem_of_getElem? (i := 139) (by decide +kernel), List.mem_of_getElem? (i := 388) (by decide +kernel), List.mem_of_getElem? (i := 389) (by decide +kernel)⟩
theorem lw_p8 : lw_okq (⟨"CornerMaps$Reader", "readName", "([II)Z"⟩, 14) := ⟨⟨by decide +kernel, by decide +kernel⟩, List.mem_of_getElem? (i := 139) (by decide +kernel), List.mem_of_getElem? (i := 392) (by decide +kernel), List.mem_of_getElem? (i := 393) (by decide +kernel)⟩
theorem lw_p9 : lw_okq (⟨"CornerMaps$Reader", "isName", "()Z"⟩, 14) := ⟨⟨by decide +kernel, by decide +kernel⟩, List.mem_of_getElem? (i := 139) (by decide +kernel), List.mem_of_getElem? (i := 396) (by decide +kernel), List.mem_of_getElem? (i := 397) (by decide +kernel)⟩
theorem lw_p10 : lw_okq (⟨"CornerMaps$Reader", "placeAmong", "([II)I"⟩, 14) := ⟨⟨by decide +kernel, by decide +kernel⟩, List.mem_of_getElem? (i := 139) (by decide +kernel), List.mem_of_getElem? (i := 401) (by decide +kernel), List.mem_of_getElem? (i := 402) (by decide +kernel)⟩
theorem lw_p11 : lw_okq (⟨"CornerMaps$Reader", "readNumbers", "(II)Z"⟩, 14) := ⟨⟨by decide +kernel, by decide +kernel⟩, List.mem_of_getElem? (i := 139) (by decide +kernel), List.mem_of_getElem? (i := 405) (by decide +kernel), List.mem_of_getElem? (i := 406) (by decide +kernel)⟩
theorem lw_p12 : lw_okq (⟨"CornerMaps$Reader", "readMap", "()Z"⟩, 14) := ⟨⟨by decide +kernel, by decide +kernel⟩, List.mem_of_getElem? (i := 139) (by decide +kernel), List.mem_of_getElem? (i := 423) (by decide +kernel), List.mem_of_getElem? (i := 424) (by decide +kernel)⟩
theorem lw_p13 : lw_okq (⟨"CornerMaps$Reader", "readToldQuad", "()I"⟩, 14) := ⟨⟨by decide +kernel, by decide +kernel⟩, List.mem_of_getElem? (i := 139) (by decide +kernel), List.mem_of_getElem? (i := 427) (by decide +kernel), List.mem_of_getElem? (i := 428) (by decide +kernel)⟩
theorem lw_p14 : lw_okq (⟨"CornerMaps$Reader", "readPoint", "()Z"⟩, 14) := ⟨⟨by decide +kernel, by decide +kernel⟩, List.mem_of_getElem? (i := 139) (by decide +kernel), List.mem_of_getElem? (i := 483) (by decide +kernel), List.mem_of_getElem? (i := 484) (by decide +kernel)⟩
theorem lw_p15 : lw_okq (⟨"CornerMaps", "keepMap", "([J)I"⟩, 18) := ⟨⟨by decide +kernel, by decide +kernel⟩, List.mem_of_getElem? (i := 33) (by decide +kernel), List.mem_of_getElem? (i := 541) (by decide +kernel), List.mem_of_getElem? (i := 542) (by decide +kernel)⟩
def lw_privs_1 : List (MethodName × Nat) := [(⟨"CornerMaps$Reader", "next", "()V"⟩, 14), (⟨"CornerMaps$Reader", "nextWord", "()V"⟩, 14), (⟨"CornerMaps$Reader", "nextDigits", "()V"⟩, 14), (⟨"CornerMaps$Reader", "nextSign", "(I)V"⟩, 14), (⟨"CornerMaps$Reader", "isWord", "(I)Z"⟩, 14), (⟨"CornerMaps$Reader", "readQuad", "()Z"⟩, 14), (⟨"CornerMaps$Reader", "refuse", "(I)Z"⟩, 14), (⟨"CornerMaps$Reader", "refuseAt", "(II)Z"⟩, 14), (⟨"CornerMaps$Reader", "readName", "([II)Z"⟩, 14), (⟨"CornerMaps$Reader", "isName", "()Z"⟩, 14), (⟨"CornerMaps$Reader", "placeAmong", "([II)I"⟩, 14), (⟨"CornerMaps$Reader", "readNumbers", "(II)Z"⟩, 14), (⟨"CornerMaps$Reader", "readMap", "()Z"⟩, 14), (⟨"CornerMaps$Reader", "readToldQuad", "()I"⟩, 14), (⟨"CornerMaps$Reader", "readPoint", "()Z"⟩, 14), (⟨"CornerMaps", "keepMap", "([J)I"⟩, 18)]
theorem lw_r1 : ∀ q ∈ lw_privs_1, lw_okq q := List.forall_mem_cons.mpr ⟨lw_p0, List.forall_mem_cons.mpr ⟨lw_p1, List.forall_mem_cons.mpr ⟨lw_p2, List.forall_mem_cons.mpr ⟨lw_p3, List.forall_mem_cons.mpr ⟨lw_p4, List.forall_mem_cons.mpr ⟨lw_p5, List.forall_mem_cons.mpr ⟨lw_p6, List.forall_mem_cons.mpr ⟨lw_p7, List.forall_mem_cons.mpr ⟨lw_p8, List.forall_mem_cons.mpr ⟨lw_p9, List.forall_mem_cons.mpr ⟨lw_p10, List.forall_mem_cons.mpr ⟨lw_p11, List.forall_mem_cons.mpr ⟨lw_p12, List.forall_mem_cons.mpr ⟨lw_p13, List.forall_mem_cons.mpr ⟨lw_p14, List.forall_mem_cons.mpr ⟨lw_p15, fun _ h => absurd h List.not_mem_nil⟩⟩⟩⟩⟩⟩⟩⟩⟩⟩⟩⟩⟩⟩⟩⟩
theorem lw_p16 : lw_okq (⟨"CornerMaps$Past", "nextPlace", "()I"⟩, 5) := ⟨⟨by decide +kernel, by decide +kernel⟩, List.mem_of_getElem? (i := 190) (by decide +kernel), List.mem_of_getElem? (i := 551) (by decide +kernel), List.mem_of_getElem? (i := 552) (by decide +kernel)⟩
theorem lw_p17 : lw_okq (⟨"CornerMaps", "rise", "([J)Z"⟩, 18) := ⟨⟨by decide +kernel, by decide +kernel⟩, List.mem_of_getElem? (i := 33) (by decide +kernel), List.mem_of_getElem? (i := 586) (by decide +kernel), List.mem_of_getElem? (i := 587) (by decide +kernel)⟩
theorem lw_p18 : lw_okq (⟨"CornerMaps", "doCommute", "(II)Z"⟩, 18) := ⟨⟨by decide +kernel, by decide +kernel⟩, List.mem_of_getElem? (i := 33) (by decide +kernel), List.mem_of_getElem? (i := 749) (by decide +kernel), List.mem_of_getElem? (i := 750) (by decide +kernel)⟩
theorem lw_p19 : lw_okq (⟨"CornerMaps", "areInverse", "(II)Z"⟩, 18) := ⟨⟨by decide +kernel, by decide +kernel⟩, List.mem_of_getElem? (i := 33) (by decide +kernel), List.mem_of_getElem? (i := 757) (by decide +kernel), List.mem_of_getElem? (i := 758) (by decide +kernel)⟩
theorem lw_p20 : lw_okq (⟨"CornerMaps", "isKept", "([J[J)Z"⟩, 18) := ⟨⟨by decide +kernel, by decide +kernel⟩, List.mem_of_getElem? (i := 33) (by decide +kernel), List.mem_of_getElem? (i := 765) (by decide +kernel), List.mem_of_getElem? (i := 766) (by decide +kernel)⟩
theorem lw_p21 : lw_okq (⟨"CornerMaps", "isOfSort", "([J[JI)Z"⟩, 18) := ⟨⟨by decide +kernel, by decide +kernel⟩, List.mem_of_getElem? (i := 33) (by decide +kernel), List.mem_of_getElem? (i := 773) (by decide +kernel), List.mem_of_getElem? (i := 774) (by decide +kernel)⟩
theorem lw_p22 : lw_okq (⟨"CornerMaps", "areInLine", "(III)Z"⟩, 18) := ⟨⟨by decide +kernel, by decide +kernel⟩, List.mem_of_getElem? (i := 33) (by decide +kernel), List.mem_of_getElem? (i := 790) (by decide +kernel), List.mem_of_getElem? (i := 791) (by decide +kernel)⟩
theorem lw_p23 : lw_okq (⟨"CornerMaps", "arePoints", "(IIII)Z"⟩, 18) := ⟨⟨by decide +kernel, by decide +kernel⟩, List.mem_of_getElem? (i := 33) (by decide +kernel), List.mem_of_getElem? (i := 799) (by decide +kernel), List.mem_of_getElem? (i := 800) (by decide +kernel)⟩
theorem lw_p24 : lw_okq (⟨"CornerMaps", "hasThreeAlike", "(IIII)Z"⟩, 18) := ⟨⟨by decide +kernel, by decide +kernel⟩, List.mem_of_getElem? (i := 33) (by decide +kernel), List.mem_of_getElem? (i := 810) (by decide +kernel), List.mem_of_getElem? (i := 811) (by decide +kernel)⟩
theorem lw_p25 : lw_okq (⟨"CornerMaps", "areAlike", "(II)Z"⟩, 18) := ⟨⟨by decide +kernel, by decide +kernel⟩, List.mem_of_getElem? (i := 33) (by decide +kernel), List.mem_of_getElem? (i := 814) (by decide +kernel), List.mem_of_getElem? (i := 815) (by decide +kernel)⟩
theorem lw_p26 : lw_okq (⟨"CornerMaps", "axisOutside", "(III)I"⟩, 18) := ⟨⟨by decide +kernel, by decide +kernel⟩, List.mem_of_getElem? (i := 33) (by decide +kernel), List.mem_of_getElem? (i := 818) (by decide +kernel), List.mem_of_getElem? (i := 819) (by decide +kernel)⟩
theorem lw_p27 : lw_okq (⟨"CornerMaps", "span", "(III)J"⟩, 18) := ⟨⟨by decide +kernel, by decide +kernel⟩, List.mem_of_getElem? (i := 33) (by decide +kernel), List.mem_of_getElem? (i := 822) (by decide +kernel), List.mem_of_getElem? (i := 823) (by decide +kernel)⟩
theorem lw_p28 : lw_okq (⟨"CornerMaps", "follow", "(III)Z"⟩, 18) := ⟨⟨by decide +kernel, by decide +kernel⟩, List.mem_of_getElem? (i := 33) (by decide +kernel), List.mem_of_getElem? (i := 838) (by decide +kernel), List.mem_of_getElem? (i := 839) (by decide +kernel)⟩
theorem lw_p29 : lw_okq (⟨"CornerMaps", "stepOn", "(I)Z"⟩, 18) := ⟨⟨by decide +kernel, by decide +kernel⟩, List.mem_of_getElem? (i := 33) (by decide +kernel), List.mem_of_getElem? (i := 842) (by decide +kernel), List.mem_of_getElem? (i := 843) (by decide +kernel)⟩
theorem lw_p30 : lw_okq (⟨"CornerMaps", "meetSides", "(II)V"⟩, 18) := ⟨⟨by decide +kernel, by decide +kernel⟩, List.mem_of_getElem? (i := 33) (by decide +kernel), List.mem_of_getElem? (i := 889) (by decide +kernel), List.mem_of_getElem? (i := 890) (by decide +kernel)⟩
theorem lw_p31 : lw_okq (⟨"CornerMaps", "keepsCorners", "(II)Z"⟩, 18) := ⟨⟨by decide +kernel, by decide +kernel⟩, List.mem_of_getElem? (i := 33) (by decide +kernel), List.mem_of_getElem? (i := 903) (by decide +kernel), List.mem_of_getElem? (i := 904) (by decide +kernel)⟩
def lw_privs_2 : List (MethodName × Nat) := [(⟨"CornerMaps$Past", "nextPlace", "()I"⟩, 5), (⟨"CornerMaps", "rise", "([J)Z"⟩, 18), (⟨"CornerMaps", "doCommute", "(II)Z"⟩, 18), (⟨"CornerMaps", "areInverse", "(II)Z"⟩, 18), (⟨"CornerMaps", "isKept", "([J[J)Z"⟩, 18), (⟨"CornerMaps", "isOfSort", "([J[JI)Z"⟩, 18), (⟨"CornerMaps", "areInLine", "(III)Z"⟩, 18), (⟨"CornerMaps", "arePoints", "(IIII)Z"⟩, 18), (⟨"CornerMaps", "hasThreeAlike", "(IIII)Z"⟩, 18), (⟨"CornerMaps", "areAlike", "(II)Z"⟩, 18), (⟨"CornerMaps", "axisOutside", "(III)I"⟩, 18), (⟨"CornerMaps", "span", "(III)J"⟩, 18), (⟨"CornerMaps", "follow", "(III)Z"⟩, 18), (⟨"CornerMaps", "stepOn", "(I)Z"⟩, 18), (⟨"CornerMaps", "meetSides", "(II)V"⟩, 18), (⟨"CornerMaps", "keepsCorners", "(II)Z"⟩, 18)]
theorem lw_r2 : ∀ q ∈ lw_privs_2, lw_okq q := List.forall_mem_cons.mpr ⟨lw_p16, List.forall_mem_cons.mpr ⟨lw_p17, List.forall_mem_cons.mpr ⟨lw_p18, List.forall_mem_cons.mpr ⟨lw_p19, List.forall_mem_cons.mpr ⟨lw_p20, List.forall_mem_cons.mpr ⟨lw_p21, List.forall_mem_cons.mpr ⟨lw_p22, List.forall_mem_cons.mpr ⟨lw_p23, List.forall_mem_cons.mpr ⟨lw_p24, List.forall_mem_cons.mpr ⟨lw_p25, List.forall_mem_cons.mpr ⟨lw_p26, List.forall_mem_cons.mpr ⟨lw_p27, List.forall_mem_cons.mpr ⟨lw_p28, List.forall_mem_cons.mpr ⟨lw_p29, List.forall_mem_cons.mpr ⟨lw_p30, List.forall_mem_cons.mpr ⟨lw_p31, fun _ h => absurd h List.not_mem_nil⟩⟩⟩⟩⟩⟩⟩⟩⟩⟩⟩⟩⟩⟩⟩⟩
theorem lw_p32 : lw_okq (⟨"CornerMaps", "findWord", "(I)I"⟩, 18) := ⟨⟨by decide +kernel, by decide +kernel⟩, List.mem_of_getElem? (i := 33) (by decide +kernel), List.mem_of_getElem? (i := 927) (by decide +kernel), List.mem_of_getElem? (i := 928) (by decide +kernel)⟩
theorem lw_p33 : lw_okq (⟨"CornerMaps", "findOne", "(I)Z"⟩, 18) := ⟨⟨by decide +kernel, by decide +kernel⟩, List.mem_of_getElem? (i := 33) (by decide +kernel), List.mem_of_getElem? (i := 931) (by decide +kernel), List.mem_of_getElem? (i := 932) (by decide +kernel)⟩
theorem lw_p34 : lw_okq (⟨"CornerMaps", "findTwo", "(I)Z"⟩, 18) := ⟨⟨by decide +kernel, by decide +kernel⟩, List.mem_of_getElem? (i := 33) (by decide +kernel), List.mem_of_getElem? (i := 940) (by decide +kernel), List.mem_of_getElem? (i := 941) (by decide +kernel)⟩
theorem lw_p35 : lw_okq (⟨"CornerMaps", "findThree", "(I)Z"⟩, 18) := ⟨⟨by decide +kernel, by decide +kernel⟩, List.mem_of_getElem? (i := 33) (by decide +kernel), List.mem_of_getElem? (i := 948) (by decide +kernel), List.mem_of_getElem? (i := 949) (by decide +kernel)⟩
theorem lw_p36 : lw_okq (⟨"CornerMaps", "comesTo", "(I[J[J)Z"⟩, 18) := ⟨⟨by decide +kernel, by decide +kernel⟩, List.mem_of_getElem? (i := 33) (by decide +kernel), List.mem_of_getElem? (i := 952) (by decide +kernel), List.mem_of_getElem? (i := 953) (by decide +kernel)⟩
theorem lw_p37 : lw_okq (⟨"CornerMaps", "stoodBefore", "(I)Z"⟩, 18) := ⟨⟨by decide +kernel, by decide +kernel⟩, List.mem_of_getElem? (i := 33) (by decide +kernel), List.mem_of_getElem? (i := 964) (by decide +kernel), List.mem_of_getElem? (i := 965) (by decide +kernel)⟩
theorem lw_p38 : lw_okq (⟨"CornerMaps", "generatedMap", "(I)[J"⟩, 18) := ⟨⟨by decide +kernel, by decide +kernel⟩, List.mem_of_getElem? (i := 33) (by decide +kernel), List.mem_of_getElem? (i := 968) (by decide +kernel), List.mem_of_getElem? (i := 969) (by decide +kernel)⟩
theorem lw_p39 : lw_okq (⟨"CornerMaps", "isFar", "(I)Z"⟩, 18) := ⟨⟨by decide +kernel, by decide +kernel⟩, List.mem_of_getElem? (i := 33) (by decide +kernel), List.mem_of_getElem? (i := 995) (by decide +kernel), List.mem_of_getElem? (i := 996) (by decide +kernel)⟩
theorem lw_p40 : lw_okq (⟨"CornerMaps", "cornersThatHit", "(III)I"⟩, 18) := ⟨⟨by decide +kernel, by decide +kernel⟩, List.mem_of_getElem? (i := 33) (by decide +kernel), List.mem_of_getElem? (i := 1030) (by decide +kernel), List.mem_of_getElem? (i := 1031) (by decide +kernel)⟩
theorem lw_p41 : lw_okq (⟨"CornerMaps", "isPairOf", "(III)Z"⟩, 18) := ⟨⟨by decide +kernel, by decide +kernel⟩, List.mem_of_getElem? (i := 33) (by decide +kernel), List.mem_of_getElem? (i := 1060) (by decide +kernel), List.mem_of_getElem? (i := 1061) (by decide +kernel)⟩
theorem lw_p42 : lw_okq (⟨"java/lang/Throwable", "fillInStackTrace", "(I)Ljava/lang/Throwable;"⟩, 6) := ⟨⟨by decide +kernel, by decide +kernel⟩, List.mem_of_getElem? (i := 1311) (by decide +kernel), List.mem_of_getElem? (i := 1309) (by decide +kernel), List.mem_of_getElem? (i := 1310) (by decide +kernel)⟩
theorem lw_p43 : lw_okq (⟨"CornerMapsModel", "token", "()V"⟩, 38) := ⟨⟨by decide +kernel, by decide +kernel⟩, List.mem_of_getElem? (i := 1492) (by decide +kernel), List.mem_of_getElem? (i := 1625) (by decide +kernel), List.mem_of_getElem? (i := 1626) (by decide +kernel)⟩
theorem lw_p44 : lw_okq (⟨"CornerMapsModel", "here", "()I"⟩, 38) := ⟨⟨by decide +kernel, by decide +kernel⟩, List.mem_of_getElem? (i := 1492) (by decide +kernel), List.mem_of_getElem? (i := 1629) (by decide +kernel), List.mem_of_getElem? (i := 1630) (by decide +kernel)⟩
theorem lw_p45 : lw_okq (⟨"CornerMapsModel", "wordHere", "()I"⟩, 38) := ⟨⟨by decide +kernel, by decide +kernel⟩, List.mem_of_getElem? (i := 1492) (by decide +kernel), List.mem_of_getElem? (i := 1636) (by decide +kernel), List.mem_of_getElem? (i := 1637) (by decide +kernel)⟩
theorem lw_p46 : lw_okq (⟨"CornerMapsModel", "readLine", "()V"⟩, 38) := ⟨⟨by decide +kernel, by decide +kernel⟩, List.mem_of_getElem? (i := 1492) (by decide +kernel), List.mem_of_getElem? (i := 1661) (by decide +kernel), List.mem_of_getElem? (i := 1662) (by decide +kernel)⟩
theorem lw_p47 : lw_okq (⟨"CornerMapsModel", "readQuad", "()V"⟩, 38) := ⟨⟨by decide +kernel, by decide +kernel⟩, List.mem_of_getElem? (i := 1492) (by decide +kernel), List.mem_of_getElem? (i := 1665) (by decide +kernel), List.mem_of_getElem? (i := 1666) (by decide +kernel)⟩
def lw_privs_3 : List (MethodName × Nat) := [(⟨"CornerMaps", "findWord", "(I)I"⟩, 18), (⟨"CornerMaps", "findOne", "(I)Z"⟩, 18), (⟨"CornerMaps", "findTwo", "(I)Z"⟩, 18), (⟨"CornerMaps", "findThree", "(I)Z"⟩, 18), (⟨"CornerMaps", "comesTo", "(I[J[J)Z"⟩, 18), (⟨"CornerMaps", "stoodBefore", "(I)Z"⟩, 18), (⟨"CornerMaps", "generatedMap", "(I)[J"⟩, 18), (⟨"CornerMaps", "isFar", "(I)Z"⟩, 18), (⟨"CornerMaps", "cornersThatHit", "(III)I"⟩, 18), (⟨"CornerMaps", "isPairOf", "(III)Z"⟩, 18), (⟨"java/lang/Throwable", "fillInStackTrace", "(I)Ljava/lang/Throwable;"⟩, 6), (⟨"CornerMapsModel", "token", "()V"⟩, 38), (⟨"CornerMapsModel", "here", "()I"⟩, 38), (⟨"CornerMapsModel", "wordHere", "()I"⟩, 38), (⟨"CornerMapsModel", "readLine", "()V"⟩, 38), (⟨"CornerMapsModel", "readQuad", "()V"⟩, 38)]
theorem lw_r3 : ∀ q ∈ lw_privs_3, lw_okq q := List.forall_mem_cons.mpr ⟨lw_p32, List.forall_mem_cons.mpr ⟨lw_p33, List.forall_mem_cons.mpr ⟨lw_p34, List.forall_mem_cons.mpr ⟨lw_p35, List.forall_mem_cons.mpr ⟨lw_p36, List.forall_mem_cons.mpr ⟨lw_p37, List.forall_mem_cons.mpr ⟨lw_p38, List.forall_mem_cons.mpr ⟨lw_p39, List.forall_mem_cons.mpr ⟨lw_p40, List.forall_mem_cons.mpr ⟨lw_p41, List.forall_mem_cons.mpr ⟨lw_p42, List.forall_mem_cons.mpr ⟨lw_p43, List.forall_mem_cons.mpr ⟨lw_p44, List.forall_mem_cons.mpr ⟨lw_p45, List.forall_mem_cons.mpr ⟨lw_p46, List.forall_mem_cons.mpr ⟨lw_p47, fun _ h => absurd h List.not_mem_nil⟩⟩⟩⟩⟩⟩⟩⟩⟩⟩⟩⟩⟩⟩⟩⟩
theorem lw_p48 : lw_okq (⟨"CornerMapsModel", "wrong", "(I)V"⟩, 38) := ⟨⟨by decide +kernel, by decide +kernel⟩, List.mem_of_getElem? (i := 1492) (by decide +kernel), List.mem_of_getElem? (i := 1669) (by decide +kernel), List.mem_of_getElem? (i := 1670) (by decide +kernel)⟩
theorem lw_p49 : lw_okq (⟨"CornerMapsModel", "wrongAt", "(II)V"⟩, 38) := ⟨⟨by decide +kernel, by decide +kernel⟩, List.mem_of_getElem? (i := 1492) (by decide +kernel), List.mem_of_getElem? (i := 1673) (by decide +kernel), List.mem_of_getElem? (i := 1674) (by decide +kernel)⟩
theorem lw_p50 : lw_okq (⟨"CornerMapsModel", "goOn", "()V"⟩, 38) := ⟨⟨by decide +kernel, by decide +kernel⟩, List.mem_of_getElem? (i := 1492) (by decide +kernel), List.mem_of_getElem? (i := 1677) (by decide +kernel), List.mem_of_getElem? (i := 1678) (by decide +kernel)⟩
theorem lw_p51 : lw_okq (⟨"CornerMapsModel", "isOther", "()Z"⟩, 38) := ⟨⟨by decide +kernel, by decide +kernel⟩, List.mem_of_getElem? (i := 1492) (by decide +kernel), List.mem_of_getElem? (i := 1681) (by decide +kernel), List.mem_of_getElem? (i := 1682) (by decide +kernel)⟩
theorem lw_p52 : lw_okq (⟨"CornerMapsModel", "quadNamed", "()I"⟩, 38) := ⟨⟨by decide +kernel, by decide +kernel⟩, List.mem_of_getElem? (i := 1492) (by decide +kernel), List.mem_of_getElem? (i := 1685) (by decide +kernel), List.mem_of_getElem? (i := 1686) (by decide +kernel)⟩
theorem lw_p53 : lw_okq (⟨"CornerMapsModel", "number", "(I)I"⟩, 38) := ⟨⟨by decide +kernel, by decide +kernel⟩, List.mem_of_getElem? (i := 1492) (by decide +kernel), List.mem_of_getElem? (i := 1689) (by decide +kernel), List.mem_of_getElem? (i := 1690) (by decide +kernel)⟩
theorem lw_p54 : lw_okq (⟨"CornerMapsModel", "isEnd", "()Z"⟩, 38) := ⟨⟨by decide +kernel, by decide +kernel⟩, List.mem_of_getElem? (i := 1492) (by decide +kernel), List.mem_of_getElem? (i := 1693) (by decide +kernel), List.mem_of_getElem? (i := 1694) (by decide +kernel)⟩
theorem lw_p55 : lw_okq (⟨"CornerMapsModel", "readMap", "()V"⟩, 38) := ⟨⟨by decide +kernel, by decide +kernel⟩, List.mem_of_getElem? (i := 1492) (by decide +kernel), List.mem_of_getElem? (i := 1700) (by decide +kernel), List.mem_of_getElem? (i := 1701) (by decide +kernel)⟩
theorem lw_p56 : lw_okq (⟨"CornerMapsModel", "toldQuad", "()I"⟩, 38) := ⟨⟨by decide +kernel, by decide +kernel⟩, List.mem_of_getElem? (i := 1492) (by decide +kernel), List.mem_of_getElem? (i := 1704) (by decide +kernel), List.mem_of_getElem? (i := 1705) (by decide +kernel)⟩
theorem lw_p57 : lw_okq (⟨"CornerMapsModel", "laysMap", "([III)V"⟩, 38) := ⟨⟨by decide +kernel, by decide +kernel⟩, List.mem_of_getElem? (i := 1492) (by decide +kernel), List.mem_of_getElem? (i := 1708) (by decide +kernel), List.mem_of_getElem? (i := 1709) (by decide +kernel)⟩
theorem lw_p58 : lw_okq (⟨"CornerMapsModel", "isLarge", "()Z"⟩, 38) := ⟨⟨by decide +kernel, by decide +kernel⟩, List.mem_of_getElem? (i := 1492) (by decide +kernel), List.mem_of_getElem? (i := 1728) (by decide +kernel), List.mem_of_getElem? (i := 1729) (by decide +kernel)⟩
theorem lw_p59 : lw_okq (⟨"CornerMapsModel", "puts", "([JI)V"⟩, 38) := ⟨⟨by decide +kernel, by decide +kernel⟩, List.mem_of_getElem? (i := 1492) (by decide +kernel), List.mem_of_getElem? (i := 1733) (by decide +kernel), List.mem_of_getElem? (i := 1734) (by decide +kernel)⟩
theorem lw_p60 : lw_okq (⟨"CornerMapsModel", "readPoint", "()V"⟩, 38) := ⟨⟨by decide +kernel, by decide +kernel⟩, List.mem_of_getElem? (i := 1492) (by decide +kernel), List.mem_of_getElem? (i := 1737) (by decide +kernel), List.mem_of_getElem? (i := 1738) (by decide +kernel)⟩
theorem lw_p61 : lw_okq (⟨"CornerMapsModel", "laysThree", "(JJJ)V"⟩, 38) := ⟨⟨by decide +kernel, by decide +kernel⟩, List.mem_of_getElem? (i := 1492) (by decide +kernel), List.mem_of_getElem? (i := 1741) (by decide +kernel), List.mem_of_getElem? (i := 1742) (by decide +kernel)⟩
theorem lw_p62 : lw_okq (⟨"CornerMapsModel", "putsPoint", "([JI)V"⟩, 38) := ⟨⟨by decide +kernel, by decide +kernel⟩, List.mem_of_getElem? (i := 1492) (by decide +kernel), List.mem_of_getElem? (i := 1745) (by decide +kernel), List.mem_of_getElem? (i := 1746) (by decide +kernel)⟩
theorem lw_p63 : lw_okq (⟨"CornerMapsModel", "isQuad", "(I)Z"⟩, 38) := ⟨⟨by decide +kernel, by decide +kernel⟩, List.mem_of_getElem? (i := 1492) (by decide +kernel), List.mem_of_getElem? (i := 1757) (by decide +kernel), List.mem_of_getElem? (i := 1758) (by decide +kernel)⟩
def lw_privs_4 : List (MethodName × Nat) := [(⟨"CornerMapsModel", "wrong", "(I)V"⟩, 38), (⟨"CornerMapsModel", "wrongAt", "(II)V"⟩, 38), (⟨"CornerMapsModel", "goOn", "()V"⟩, 38), (⟨"CornerMapsModel", "isOther", "()Z"⟩, 38), (⟨"CornerMapsModel", "quadNamed", "()I"⟩, 38), (⟨"CornerMapsModel", "number", "(I)I"⟩, 38), (⟨"CornerMapsModel", "isEnd", "()Z"⟩, 38), (⟨"CornerMapsModel", "readMap", "()V"⟩, 38), (⟨"CornerMapsModel", "toldQuad", "()I"⟩, 38), (⟨"CornerMapsModel", "laysMap", "([III)V"⟩, 38), (⟨"CornerMapsModel", "isLarge", "()Z"⟩, 38), (⟨"CornerMapsModel", "puts", "([JI)V"⟩, 38), (⟨"CornerMapsModel", "readPoint", "()V"⟩, 38), (⟨"CornerMapsModel", "laysThree", "(JJJ)V"⟩, 38), (⟨"CornerMapsModel", "putsPoint", "([JI)V"⟩, 38), (⟨"CornerMapsModel", "isQuad", "(I)Z"⟩, 38)]
theorem lw_r4 : ∀ q ∈ lw_privs_4, lw_okq q := List.forall_mem_cons.mpr ⟨lw_p48, List.forall_mem_cons.mpr ⟨lw_p49, List.forall_mem_cons.mpr ⟨lw_p50, List.forall_mem_cons.mpr ⟨lw_p51, List.forall_mem_cons.mpr ⟨lw_p52, List.forall_mem_cons.mpr ⟨lw_p53, List.forall_mem_cons.mpr ⟨lw_p54, List.forall_mem_cons.mpr ⟨lw_p55, List.forall_mem_cons.mpr ⟨lw_p56, List.forall_mem_cons.mpr ⟨lw_p57, List.forall_mem_cons.mpr ⟨lw_p58, List.forall_mem_cons.mpr ⟨lw_p59, List.forall_mem_cons.mpr ⟨lw_p60, List.forall_mem_cons.mpr ⟨lw_p61, List.forall_mem_cons.mpr ⟨lw_p62, List.forall_mem_cons.mpr ⟨lw_p63, fun _ h => absurd h List.not_mem_nil⟩⟩⟩⟩⟩⟩⟩⟩⟩⟩⟩⟩⟩⟩⟩⟩
theorem lw_p64 : lw_okq (⟨"CornerMapsModel", "isMap", "(I)Z"⟩, 38) := ⟨⟨by decide +kernel, by decide +kernel⟩, List.mem_of_getElem? (i := 1492) (by decide +kernel), List.mem_of_getElem? (i := 1765) (by decide +kernel), List.mem_of_getElem? (i := 1766) (by decide +kernel)⟩
theorem lw_p65 : lw_okq (⟨"CornerMapsModel", "isPoint", "(I)Z"⟩, 38) := ⟨⟨by decide +kernel, by decide +kernel⟩, List.mem_of_getElem? (i := 1492) (by decide +kernel), List.mem_of_getElem? (i := 1776) (by decide +kernel), List.mem_of_getElem? (i := 1777) (by decide +kernel)⟩
theorem lw_p66 : lw_okq (⟨"CornerMapsModel", "pointOf", "(II)J"⟩, 38) := ⟨⟨by decide +kernel, by decide +kernel⟩, List.mem_of_getElem? (i := 1492) (by decide +kernel), List.mem_of_getElem? (i := 1780) (by decide +kernel), List.mem_of_getElem? (i := 1781) (by decide +kernel)⟩
theorem lw_p67 : lw_okq (⟨"CornerMapsModel", "dentOf", "(I)I"⟩, 38) := ⟨⟨by decide +kernel, by decide +kernel⟩, List.mem_of_getElem? (i := 1492) (by decide +kernel), List.mem_of_getElem? (i := 1788) (by decide +kernel), List.mem_of_getElem? (i := 1789) (by decide +kernel)⟩
theorem lw_p68 : lw_okq (⟨"CornerMapsModel", "isDent", "(II)Z"⟩, 38) := ⟨⟨by decide +kernel, by decide +kernel⟩, List.mem_of_getElem? (i := 1492) (by decide +kernel), List.mem_of_getElem? (i := 1792) (by decide +kernel), List.mem_of_getElem? (i := 1793) (by decide +kernel)⟩
theorem lw_p69 : lw_okq (⟨"CornerMapsModel", "doCross", "(IIIII)Z"⟩, 38) := ⟨⟨by decide +kernel, by decide +kernel⟩, List.mem_of_getElem? (i := 1492) (by decide +kernel), List.mem_of_getElem? (i := 1796) (by decide +kernel), List.mem_of_getElem? (i := 1797) (by decide +kernel)⟩
theorem lw_p70 : lw_okq (⟨"CornerMapsModel", "comes", "()I"⟩, 38) := ⟨⟨by decide +kernel, by decide +kernel⟩, List.mem_of_getElem? (i := 1492) (by decide +kernel), List.mem_of_getElem? (i := 1817) (by decide +kernel), List.mem_of_getElem? (i := 1818) (by decide +kernel)⟩
theorem lw_p71 : lw_okq (⟨"CornerMapsModel", "keeps", "()V"⟩, 38) := ⟨⟨by decide +kernel, by decide +kernel⟩, List.mem_of_getElem? (i := 1492) (by decide +kernel), List.mem_of_getElem? (i := 1822) (by decide +kernel), List.mem_of_getElem? (i := 1823) (by decide +kernel)⟩
theorem lw_p72 : lw_okq (⟨"CornerMapsModel", "laysProduct", "(II)V"⟩, 38) := ⟨⟨by decide +kernel, by decide +kernel⟩, List.mem_of_getElem? (i := 1492) (by decide +kernel), List.mem_of_getElem? (i := 1834) (by decide +kernel), List.mem_of_getElem? (i := 1835) (by decide +kernel)⟩
theorem lw_p73 : lw_okq (⟨"CornerMapsModel", "takes", "([JI)V"⟩, 38) := ⟨⟨by decide +kernel, by decide +kernel⟩, List.mem_of_getElem? (i := 1492) (by decide +kernel), List.mem_of_getElem? (i := 1838) (by decide +kernel), List.mem_of_getElem? (i := 1839) (by decide +kernel)⟩
theorem lw_p74 : lw_okq (⟨"CornerMapsModel", "laysInverse", "(I)V"⟩, 38) := ⟨⟨by decide +kernel, by decide +kernel⟩, List.mem_of_getElem? (i := 1492) (by decide +kernel), List.mem_of_getElem? (i := 1846) (by decide +kernel), List.mem_of_getElem? (i := 1847) (by decide +kernel)⟩
theorem lw_p75 : lw_okq (⟨"CornerMapsModel", "nothing", "()V"⟩, 38) := ⟨⟨by decide +kernel, by decide +kernel⟩, List.mem_of_getElem? (i := 1492) (by decide +kernel), List.mem_of_getElem? (i := 1854) (by decide +kernel), List.mem_of_getElem? (i := 1855) (by decide +kernel)⟩
theorem lw_p76 : lw_okq (⟨"CornerMapsModel", "goesOn", "(I)Z"⟩, 38) := ⟨⟨by decide +kernel, by decide +kernel⟩, List.mem_of_getElem? (i := 1492) (by decide +kernel), List.mem_of_getElem? (i := 1858) (by decide +kernel), List.mem_of_getElem? (i := 1859) (by decide +kernel)⟩
theorem lw_p77 : lw_okq (⟨"CornerMapsModel", "imageOf", "(II)V"⟩, 38) := ⟨⟨by decide +kernel, by decide +kernel⟩, List.mem_of_getElem? (i := 1492) (by decide +kernel), List.mem_of_getElem? (i := 1878) (by decide +kernel), List.mem_of_getElem? (i := 1879) (by decide +kernel)⟩
theorem lw_p78 : lw_okq (⟨"CornerMapsModel", "images", "([JJJJ)V"⟩, 38) := ⟨⟨by decide +kernel, by decide +kernel⟩, List.mem_of_getElem? (i := 1492) (by decide +kernel), List.mem_of_getElem? (i := 1882) (by decide +kernel), List.mem_of_getElem? (i := 1883) (by decide +kernel)⟩
theorem lw_p79 : lw_okq (⟨"CornerMapsModel", "sideOf", "(IJJJ)I"⟩, 38) := ⟨⟨by decide +kernel, by decide +kernel⟩, List.mem_of_getElem? (i := 1492) (by decide +kernel), List.mem_of_getElem? (i := 1916) (by decide +kernel), List.mem_of_getElem? (i := 1917) (by decide +kernel)⟩
def lw_privs_5 : List (MethodName × Nat) := [(⟨"CornerMapsModel", "isMap", "(I)Z"⟩, 38), (⟨"CornerMapsModel", "isPoint", "(I)Z"⟩, 38), (⟨"CornerMapsModel", "pointOf", "(II)J"⟩, 38), (⟨"CornerMapsModel", "dentOf", "(I)I"⟩, 38), (⟨"CornerMapsModel", "isDent", "(II)Z"⟩, 38), (⟨"CornerMapsModel", "doCross", "(IIIII)Z"⟩, 38), (⟨"CornerMapsModel", "comes", "()I"⟩, 38), (⟨"CornerMapsModel", "keeps", "()V"⟩, 38), (⟨"CornerMapsModel", "laysProduct", "(II)V"⟩, 38), (⟨"CornerMapsModel", "takes", "([JI)V"⟩, 38), (⟨"CornerMapsModel", "laysInverse", "(I)V"⟩, 38), (⟨"CornerMapsModel", "nothing", "()V"⟩, 38), (⟨"CornerMapsModel", "goesOn", "(I)Z"⟩, 38), (⟨"CornerMapsModel", "imageOf", "(II)V"⟩, 38), (⟨"CornerMapsModel", "images", "([JJJJ)V"⟩, 38), (⟨"CornerMapsModel", "sideOf", "(IJJJ)I"⟩, 38)]
theorem lw_r5 : ∀ q ∈ lw_privs_5, lw_okq q := List.forall_mem_cons.mpr ⟨lw_p64, List.forall_mem_cons.mpr ⟨lw_p65, List.forall_mem_cons.mpr ⟨lw_p66, List.forall_mem_cons.mpr ⟨lw_p67, List.forall_mem_cons.mpr ⟨lw_p68, List.forall_mem_cons.mpr ⟨lw_p69, List.forall_mem_cons.mpr ⟨lw_p70, List.forall_mem_cons.mpr ⟨lw_p71, List.forall_mem_cons.mpr ⟨lw_p72, List.forall_mem_cons.mpr ⟨lw_p73, List.forall_mem_cons.mpr ⟨lw_p74, List.forall_mem_cons.mpr ⟨lw_p75, List.forall_mem_cons.mpr ⟨lw_p76, List.forall_mem_cons.mpr ⟨lw_p77, List.forall_mem_cons.mpr ⟨lw_p78, List.forall_mem_cons.mpr ⟨lw_p79, fun _ h => absurd h List.not_mem_nil⟩⟩⟩⟩⟩⟩⟩⟩⟩⟩⟩⟩⟩⟩⟩⟩
theorem lw_p80 : lw_okq (⟨"CornerMapsModel", "sideOfCorner", "(III)I"⟩, 38) := ⟨⟨by decide +kernel, by decide +kernel⟩, List.mem_of_getElem? (i := 1492) (by decide +kernel), List.mem_of_getElem? (i := 1927) (by decide +kernel), List.mem_of_getElem? (i := 1928) (by decide +kernel)⟩
theorem lw_p81 : lw_okq (⟨"CornerMapsModel", "kindOfNine", "()I"⟩, 38) := ⟨⟨by decide +kernel, by decide +kernel⟩, List.mem_of_getElem? (i := 1492) (by decide +kernel), List.mem_of_getElem? (i := 1939) (by decide +kernel), List.mem_of_getElem? (i := 1940) (by decide +kernel)⟩
theorem lw_p82 : lw_okq (⟨"CornerMapsModel", "isNothing", "()Z"⟩, 38) := ⟨⟨by decide +kernel, by decide +kernel⟩, List.mem_of_getElem? (i := 1492) (by decide +kernel), List.mem_of_getElem? (i := 1943) (by decide +kernel), List.mem_of_getElem? (i := 1944) (by decide +kernel)⟩
theorem lw_p83 : lw_okq (⟨"CornerMapsModel", "isLike", "(I)Z"⟩, 38) := ⟨⟨by decide +kernel, by decide +kernel⟩, List.mem_of_getElem? (i := 1492) (by decide +kernel), List.mem_of_getElem? (i := 1960) (by decide +kernel), List.mem_of_getElem? (i := 1961) (by decide +kernel)⟩
theorem lw_p84 : lw_okq (⟨"CornerMapsModel", "doesStay", "(II)Z"⟩, 38) := ⟨⟨by decide +kernel, by decide +kernel⟩, List.mem_of_getElem? (i := 1492) (by decide +kernel), List.mem_of_getElem? (i := 1976) (by decide +kernel), List.mem_of_getElem? (i := 1977) (by decide +kernel)⟩
theorem lw_p85 : lw_okq (⟨"CornerMapsModel", "crossesPoints", "([JII)V"⟩, 38) := ⟨⟨by decide +kernel, by decide +kernel⟩, List.mem_of_getElem? (i := 1492) (by decide +kernel), List.mem_of_getElem? (i := 1988) (by decide +kernel), List.mem_of_getElem? (i := 1989) (by decide +kernel)⟩
theorem lw_p86 : lw_okq (⟨"CornerMapsModel", "crosses", "([JJJJJJJ)V"⟩, 38) := ⟨⟨by decide +kernel, by decide +kernel⟩, List.mem_of_getElem? (i := 1492) (by decide +kernel), List.mem_of_getElem? (i := 1992) (by decide +kernel), List.mem_of_getElem? (i := 1993) (by decide +kernel)⟩
theorem lw_p87 : lw_okq (⟨"CornerMapsModel", "isOn", "([JI)Z"⟩, 38) := ⟨⟨by decide +kernel, by decide +kernel⟩, List.mem_of_getElem? (i := 1492) (by decide +kernel), List.mem_of_getElem? (i := 2003) (by decide +kernel), List.mem_of_getElem? (i := 2004) (by decide +kernel)⟩
theorem lw_p88 : lw_okq (⟨"CornerMapsModel", "areThree", "(III)Z"⟩, 38) := ⟨⟨by decide +kernel, by decide +kernel⟩, List.mem_of_getElem? (i := 1492) (by decide +kernel), List.mem_of_getElem? (i := 2015) (by decide +kernel), List.mem_of_getElem? (i := 2016) (by decide +kernel)⟩
theorem lw_p89 : lw_okq (⟨"CornerMapsModel", "alike", "(II)Z"⟩, 38) := ⟨⟨by decide +kernel, by decide +kernel⟩, List.mem_of_getElem? (i := 1492) (by decide +kernel), List.mem_of_getElem? (i := 2019) (by decide +kernel), List.mem_of_getElem? (i := 2020) (by decide +kernel)⟩
theorem lw_p90 : lw_okq (⟨"CornerMapsModel", "often", "(II)J"⟩, 38) := ⟨⟨by decide +kernel, by decide +kernel⟩, List.mem_of_getElem? (i := 1492) (by decide +kernel), List.mem_of_getElem? (i := 2023) (by decide +kernel), List.mem_of_getElem? (i := 2024) (by decide +kernel)⟩
theorem lw_p91 : lw_okq (⟨"CornerMapsModel", "tracks", "(III)Z"⟩, 38) := ⟨⟨by decide +kernel, by decide +kernel⟩, List.mem_of_getElem? (i := 1492) (by decide +kernel), List.mem_of_getElem? (i := 2035) (by decide +kernel), List.mem_of_getElem? (i := 2036) (by decide +kernel)⟩
theorem lw_p92 : lw_okq (⟨"CornerMapsModel", "hasEdges", "()Z"⟩, 38) := ⟨⟨by decide +kernel, by decide +kernel⟩, List.mem_of_getElem? (i := 1492) (by decide +kernel), List.mem_of_getElem? (i := 2039) (by decide +kernel), List.mem_of_getElem? (i := 2040) (by decide +kernel)⟩
theorem lw_p93 : lw_okq (⟨"CornerMapsModel", "isAt", "(I)Z"⟩, 38) := ⟨⟨by decide +kernel, by decide +kernel⟩, List.mem_of_getElem? (i := 1492) (by decide +kernel), List.mem_of_getElem? (i := 2047) (by decide +kernel), List.mem_of_getElem? (i := 2048) (by decide +kernel)⟩
theorem lw_p94 : lw_okq (⟨"CornerMapsModel", "isOnSide", "(IIJJJ)Z"⟩, 38) := ⟨⟨by decide +kernel, by decide +kernel⟩, List.mem_of_getElem? (i := 1492) (by decide +kernel), List.mem_of_getElem? (i := 2063) (by decide +kernel), List.mem_of_getElem? (i := 2064) (by decide +kernel)⟩
theorem lw_p95 : lw_okq (⟨"CornerMapsModel", "sideOfSide", "(IIJJJ)I"⟩, 38) := ⟨⟨by decide +kernel, by decide +kernel⟩, List.mem_of_getElem? (i := 1492) (by decide +kernel), List.mem_of_getElem? (i := 2067) (by decide +kernel), List.mem_of_getElem? (i := 2068) (by decide +kernel)⟩
def lw_privs_6 : List (MethodName × Nat) := [(⟨"CornerMapsModel", "sideOfCorner", "(III)I"⟩, 38), (⟨"CornerMapsModel", "kindOfNine", "()I"⟩, 38), (⟨"CornerMapsModel", "isNothing", "()Z"⟩, 38), (⟨"CornerMapsModel", "isLike", "(I)Z"⟩, 38), (⟨"CornerMapsModel", "doesStay", "(II)Z"⟩, 38), (⟨"CornerMapsModel", "crossesPoints", "([JII)V"⟩, 38), (⟨"CornerMapsModel", "crosses", "([JJJJJJJ)V"⟩, 38), (⟨"CornerMapsModel", "isOn", "([JI)Z"⟩, 38), (⟨"CornerMapsModel", "areThree", "(III)Z"⟩, 38), (⟨"CornerMapsModel", "alike", "(II)Z"⟩, 38), (⟨"CornerMapsModel", "often", "(II)J"⟩, 38), (⟨"CornerMapsModel", "tracks", "(III)Z"⟩, 38), (⟨"CornerMapsModel", "hasEdges", "()Z"⟩, 38), (⟨"CornerMapsModel", "isAt", "(I)Z"⟩, 38), (⟨"CornerMapsModel", "isOnSide", "(IIJJJ)Z"⟩, 38), (⟨"CornerMapsModel", "sideOfSide", "(IIJJJ)I"⟩, 38)]
theorem lw_r6 : ∀ q ∈ lw_privs_6, lw_okq q := List.forall_mem_cons.mpr ⟨lw_p80, List.forall_mem_cons.mpr ⟨lw_p81, List.forall_mem_cons.mpr ⟨lw_p82, List.forall_mem_cons.mpr ⟨lw_p83, List.forall_mem_cons.mpr ⟨lw_p84, List.forall_mem_cons.mpr ⟨lw_p85, List.forall_mem_cons.mpr ⟨lw_p86, List.forall_mem_cons.mpr ⟨lw_p87, List.forall_mem_cons.mpr ⟨lw_p88, List.forall_mem_cons.mpr ⟨lw_p89, List.forall_mem_cons.mpr ⟨lw_p90, List.forall_mem_cons.mpr ⟨lw_p91, List.forall_mem_cons.mpr ⟨lw_p92, List.forall_mem_cons.mpr ⟨lw_p93, List.forall_mem_cons.mpr ⟨lw_p94, List.forall_mem_cons.mpr ⟨lw_p95, fun _ h => absurd h List.not_mem_nil⟩⟩⟩⟩⟩⟩⟩⟩⟩⟩⟩⟩⟩⟩⟩⟩
theorem lw_p96 : lw_okq (⟨"CornerMapsModel", "doMeet", "(IIII)Z"⟩, 38) := ⟨⟨by decide +kernel, by decide +kernel⟩, List.mem_of_getElem? (i := 1492) (by decide +kernel), List.mem_of_getElem? (i := 2080) (by decide +kernel), List.mem_of_getElem? (i := 2081) (by decide +kernel)⟩
theorem lw_p97 : lw_okq (⟨"CornerMapsModel", "isOnSideCorner", "(IIII)Z"⟩, 38) := ⟨⟨by decide +kernel, by decide +kernel⟩, List.mem_of_getElem? (i := 1492) (by decide +kernel), List.mem_of_getElem? (i := 2084) (by decide +kernel), List.mem_of_getElem? (i := 2085) (by decide +kernel)⟩
theorem lw_p98 : lw_okq (⟨"CornerMapsModel", "sideOfSideCorner", "(IIII)I"⟩, 38) := ⟨⟨by decide +kernel, by decide +kernel⟩, List.mem_of_getElem? (i := 1492) (by decide +kernel), List.mem_of_getElem? (i := 2088) (by decide +kernel), List.mem_of_getElem? (i := 2089) (by decide +kernel)⟩
theorem lw_p99 : lw_okq (⟨"CornerMapsModel", "laysDiagonal", "(II)V"⟩, 38) := ⟨⟨by decide +kernel, by decide +kernel⟩, List.mem_of_getElem? (i := 1492) (by decide +kernel), List.mem_of_getElem? (i := 2096) (by decide +kernel), List.mem_of_getElem? (i := 2097) (by decide +kernel)⟩
theorem lw_p100 : lw_okq (⟨"CornerMapsModel", "joins", "([JIII)V"⟩, 38) := ⟨⟨by decide +kernel, by decide +kernel⟩, List.mem_of_getElem? (i := 1492) (by decide +kernel), List.mem_of_getElem? (i := 2100) (by decide +kernel), List.mem_of_getElem? (i := 2101) (by decide +kernel)⟩
theorem lw_p101 : lw_okq (⟨"CornerMapsModel", "turnBy", "(IIIII)I"⟩, 38) := ⟨⟨by decide +kernel, by decide +kernel⟩, List.mem_of_getElem? (i := 1492) (by decide +kernel), List.mem_of_getElem? (i := 2112) (by decide +kernel), List.mem_of_getElem? (i := 2113) (by decide +kernel)⟩
theorem lw_p102 : lw_okq (⟨"CornerMapsModel", "doCrossBy", "(IIIIII)Z"⟩, 38) := ⟨⟨by decide +kernel, by decide +kernel⟩, List.mem_of_getElem? (i := 1492) (by decide +kernel), List.mem_of_getElem? (i := 2116) (by decide +kernel), List.mem_of_getElem? (i := 2117) (by decide +kernel)⟩
theorem lw_p103 : lw_okq (⟨"CornerMapsModel", "laysOrder", "(III)V"⟩, 38) := ⟨⟨by decide +kernel, by decide +kernel⟩, List.mem_of_getElem? (i := 1492) (by decide +kernel), List.mem_of_getElem? (i := 2124) (by decide +kernel), List.mem_of_getElem? (i := 2125) (by decide +kernel)⟩
theorem lw_p104 : lw_okq (⟨"CornerMapsModel", "seeksRow", "(I)V"⟩, 38) := ⟨⟨by decide +kernel, by decide +kernel⟩, List.mem_of_getElem? (i := 1492) (by decide +kernel), List.mem_of_getElem? (i := 2136) (by decide +kernel), List.mem_of_getElem? (i := 2137) (by decide +kernel)⟩
theorem lw_p105 : lw_okq (⟨"CornerMapsModel", "found", "(IIII)V"⟩, 38) := ⟨⟨by decide +kernel, by decide +kernel⟩, List.mem_of_getElem? (i := 1492) (by decide +kernel), List.mem_of_getElem? (i := 2140) (by decide +kernel), List.mem_of_getElem? (i := 2141) (by decide +kernel)⟩
theorem lw_p106 : lw_okq (⟨"CornerMapsModel", "seeksThird", "(III)V"⟩, 38) := ⟨⟨by decide +kernel, by decide +kernel⟩, List.mem_of_getElem? (i := 1492) (by decide +kernel), List.mem_of_getElem? (i := 2144) (by decide +kernel), List.mem_of_getElem? (i := 2145) (by decide +kernel)⟩
theorem lw_p107 : lw_okq (⟨"CornerMapsModel", "counts", "()V"⟩, 38) := ⟨⟨by decide +kernel, by decide +kernel⟩, List.mem_of_getElem? (i := 1492) (by decide +kernel), List.mem_of_getElem? (i := 2152) (by decide +kernel), List.mem_of_getElem? (i := 2153) (by decide +kernel)⟩
theorem lw_p108 : lw_okq (⟨"CornerMapsModel", "spells", "(J)V"⟩, 38) := ⟨⟨by decide +kernel, by decide +kernel⟩, List.mem_of_getElem? (i := 1492) (by decide +kernel), List.mem_of_getElem? (i := 2160) (by decide +kernel), List.mem_of_getElem? (i := 2161) (by decide +kernel)⟩
theorem lw_p109 : lw_okq (⟨"CornerMapsModel", "laysPull", "(IJJJ)V"⟩, 38) := ⟨⟨by decide +kernel, by decide +kernel⟩, List.mem_of_getElem? (i := 1492) (by decide +kernel), List.mem_of_getElem? (i := 2170) (by decide +kernel), List.mem_of_getElem? (i := 2171) (by decide +kernel)⟩
theorem lw_p110 : lw_okq (⟨"CornerMapsModel", "isFinite", "(I)Z"⟩, 38) := ⟨⟨by decide +kernel, by decide +kernel⟩, List.mem_of_getElem? (i := 1492) (by decide +kernel), List.mem_of_getElem? (i := 2186) (by decide +kernel), List.mem_of_getElem? (i := 2187) (by decide +kernel)⟩
theorem lw_p111 : lw_okq (⟨"CornerMapsModel", "sizeOf", "(I)I"⟩, 38) := ⟨⟨by decide +kernel, by decide +kernel⟩, List.mem_of_getElem? (i := 1492) (by decide +kernel), List.mem_of_getElem? (i := 2219) (by decide +kernel), List.mem_of_getElem? (i := 2220) (by decide +kernel)⟩
def lw_privs_7 : List (MethodName × Nat) := [(⟨"CornerMapsModel", "doMeet", "(IIII)Z"⟩, 38), (⟨"CornerMapsModel", "isOnSideCorner", "(IIII)Z"⟩, 38), (⟨"CornerMapsModel", "sideOfSideCorner", "(IIII)I"⟩, 38), (⟨"CornerMapsModel", "laysDiagonal", "(II)V"⟩, 38), (⟨"CornerMapsModel", "joins", "([JIII)V"⟩, 38), (⟨"CornerMapsModel", "turnBy", "(IIIII)I"⟩, 38), (⟨"CornerMapsModel", "doCrossBy", "(IIIIII)Z"⟩, 38), (⟨"CornerMapsModel", "laysOrder", "(III)V"⟩, 38), (⟨"CornerMapsModel", "seeksRow", "(I)V"⟩, 38), (⟨"CornerMapsModel", "found", "(IIII)V"⟩, 38), (⟨"CornerMapsModel", "seeksThird", "(III)V"⟩, 38), (⟨"CornerMapsModel", "counts", "()V"⟩, 38), (⟨"CornerMapsModel", "spells", "(J)V"⟩, 38), (⟨"CornerMapsModel", "laysPull", "(IJJJ)V"⟩, 38), (⟨"CornerMapsModel", "isFinite", "(I)Z"⟩, 38), (⟨"CornerMapsModel", "sizeOf", "(I)I"⟩, 38)]
theorem lw_r7 : ∀ q ∈ lw_privs_7, lw_okq q := List.forall_mem_cons.mpr ⟨lw_p96, List.forall_mem_cons.mpr ⟨lw_p97, List.forall_mem_cons.mpr ⟨lw_p98, List.forall_mem_cons.mpr ⟨lw_p99, List.forall_mem_cons.mpr ⟨lw_p100, List.forall_mem_cons.mpr ⟨lw_p101, List.forall_mem_cons.mpr ⟨lw_p102, List.forall_mem_cons.mpr ⟨lw_p103, List.forall_mem_cons.mpr ⟨lw_p104, List.forall_mem_cons.mpr ⟨lw_p105, List.forall_mem_cons.mpr ⟨lw_p106, List.forall_mem_cons.mpr ⟨lw_p107, List.forall_mem_cons.mpr ⟨lw_p108, List.forall_mem_cons.mpr ⟨lw_p109, List.forall_mem_cons.mpr ⟨lw_p110, List.forall_mem_cons.mpr ⟨lw_p111, fun _ h => absurd h List.not_mem_nil⟩⟩⟩⟩⟩⟩⟩⟩⟩⟩⟩⟩⟩⟩⟩⟩
theorem lw_p112 : lw_okq (⟨"CornerMapsModel", "isPair", "(III)Z"⟩, 38) := ⟨⟨by decide +kernel, by decide +kernel⟩, List.mem_of_getElem? (i := 1492) (by decide +kernel), List.mem_of_getElem? (i := 2231) (by decide +kernel), List.mem_of_getElem? (i := 2232) (by decide +kernel)⟩
theorem lw_p113 : lw_okq (⟨"CornerMapsModel", "laysCorner", "(III)V"⟩, 38) := ⟨⟨by decide +kernel, by decide +kernel⟩, List.mem_of_getElem? (i := 1492) (by decide +kernel), List.mem_of_getElem? (i := 2241) (by decide +kernel), List.mem_of_getElem? (i := 2242) (by decide +kernel)⟩
theorem lw_p114 : lw_okq (⟨"CornerMapsModel", "hitsOf", "(III)I"⟩, 38) := ⟨⟨by decide +kernel, by decide +kernel⟩, List.mem_of_getElem? (i := 1492) (by decide +kernel), List.mem_of_getElem? (i := 2249) (by decide +kernel), List.mem_of_getElem? (i := 2250) (by decide +kernel)⟩
theorem lw_p115 : lw_okq (⟨"CornerMapsModel", "finite", "()I"⟩, 38) := ⟨⟨by decide +kernel, by decide +kernel⟩, List.mem_of_getElem? (i := 1492) (by decide +kernel), List.mem_of_getElem? (i := 2273) (by decide +kernel), List.mem_of_getElem? (i := 2274) (by decide +kernel)⟩
def lw_privs_8 : List (MethodName × Nat) := [(⟨"CornerMapsModel", "isPair", "(III)Z"⟩, 38), (⟨"CornerMapsModel", "laysCorner", "(III)V"⟩, 38), (⟨"CornerMapsModel", "hitsOf", "(III)I"⟩, 38), (⟨"CornerMapsModel", "finite", "()I"⟩, 38)]
theorem lw_r8 : ∀ q ∈ lw_privs_8, lw_okq q := List.forall_mem_cons.mpr ⟨lw_p112, List.forall_mem_cons.mpr ⟨lw_p113, List.forall_mem_cons.mpr ⟨lw_p114, List.forall_mem_cons.mpr ⟨lw_p115, fun _ h => absurd h List.not_mem_nil⟩⟩⟩⟩
def lw_privs : List (MethodName × Nat) := lw_privs_1 ++ (lw_privs_2 ++ (lw_privs_3 ++ (lw_privs_4 ++ (lw_privs_5 ++ (lw_privs_6 ++ (lw_privs_7 ++ (lw_privs_8)))))))
def lw_tbl : List Cond := k2_sels lw_privs ++ tables_1
theorem lw_privs_ok : ∀ q ∈ lw_privs, lw_okq q := by
  show ∀ q ∈ lw_privs_1 ++ (lw_privs_2 ++ (lw_privs_3 ++ (lw_privs_4 ++ (lw_privs_5 ++ (lw_privs_6 ++ (lw_privs_7 ++ (lw_privs_8))))))), lw_okq q
  exact List.forall_mem_append.mpr ⟨lw_r1, List.forall_mem_append.mpr ⟨lw_r2, List.forall_mem_append.mpr ⟨lw_r3, List.forall_mem_append.mpr ⟨lw_r4, List.forall_mem_append.mpr ⟨lw_r5, List.forall_mem_append.mpr ⟨lw_r6, List.forall_mem_append.mpr ⟨lw_r7, lw_r8⟩⟩⟩⟩⟩⟩⟩
-- ===== end of PART A; then your names; then what follows =====
end
section
/-! ===== BEGIN words of one list among another's, by their places ===== -/
theorem goodIn_r {big : List Cond} (ws : List Cond) (ps : List Nat) (hp : ws = ps.filterMap (fun i => big[i]?)) (h : ws.all goodWord = true) : GoodIn big ws := by
  intro w hw
  have h1 := List.all_eq_true.mp h w hw
  rw [hp] at hw
  obtain ⟨i, -, hi⟩ := List.mem_filterMap.mp hw
  have hm : w ∈ big := by first | exact List.mem_of_getElem? hi | exact List.getElem?_mem hi
  exact ⟨hm, good_of_word h1⟩
theorem goodIn_app {big a b : List Cond} (ha : GoodIn big a) (hb : GoodIn big b) : GoodIn big (a ++ b) := fun w h => (List.mem_append.mp h).elim (ha w) (hb w)
theorem goodIn_ca {big a b : List Cond} {c : Cond} (ha : GoodIn big (c :: a)) (hb : GoodIn big b) : GoodIn big (c :: (a ++ b)) := fun w h => (List.mem_cons.mp h).elim (fun e => ha w (List.mem_cons.mpr (Or.inl e))) (fun h => (List.mem_append.mp h).elim (fun h => ha w (List.mem_cons.mpr (Or.inr h))) (hb w))
theorem goodIn_sub {big ws : List Cond} (hm : ∀ w ∈ ws, w ∈ big) (h : ws.all goodWord = true) : GoodIn big ws := fun w hw => ⟨hm w hw, good_of_word (List.all_eq_true.mp h w hw)⟩
/-! ===== END ===== -/
/-! ===== BEGIN exceptions that leave a method, and their catching by the caller (launches without stack traces) ===== -/
section VXA
/-! The laws vx_back, vx_callV, vx_callS, vx_callSW, vx_throw0, vx_throwS follow proofs of the library, with one case more: JvmDerived/Free/Laws.lean (Back.of_free), Shelf42/LK1.lean (callV, callS), Shelf/KitTraced.lean (throwNew0V, throwNewS). -/
/-- where a method has thrown q: the class by its name, the cell, what was written, the world -/
def vx_T (XC : String → State → State → Prop) (st : State) (q : Addr) (t : State) (mc ms : Nat) (free : Addr → Prop) : Prop :=
  ∃ (E : String) (ce : Cell) (L : List Loc), XC E st t ∧ t.heap[q]? = some ce ∧ ce.vm = .none ∧ st.vm.findClass E = some ce.cls ∧ st.WarmedH t.vm ∧ st.sameButNew ({ t with vm := st.vm } : State) L mc ms ∧ ∀ z ∈ L, free z.base
def vx_Q (Qc : Array Value → State → Outcome → State → Prop) (XC : String → State → State → Prop) (mc ms : Nat) (free : Addr → Prop) : Array Value → State → Outcome → State → Prop := fun a st o t =>
  (Qc a st o t ∧ ∃ L, FrameEnd st o t L mc ms ∧ ∀ q ∈ L, free q.base) ∨ ∃ q, o = .threw q ∧ vx_T XC st q t mc ms free
/-- a callee that returns or throws -/
def vx_Met (l : Launch) (y : MethodName) (ws : List Cond) (rm : Room) (Pc : Array Value → State → Prop) (Qc : Array Value → State → Outcome → State → Prop) (XC : String → State → State → Prop) (mc ms : Nat) (free : Addr → Prop) : Prop :=
  MetFree l y (headSpec ws rm) Pc (fun _ _ _ _ _ => True) (vx_Q Qc XC mc ms free)
def vx_Post (XC : String → State → State → Prop) (mc ms : Nat) (free : Addr → Prop) : Pt → Array Value → Addr → Pt → Prop := fun A a q B =>
  ∃ (g : JFrame) (mk : MethodId) (t : State) (L : List Loc) (E : String) (ce : Cell), B.U.heap = t.heap ∧ B.U.vm = t.vm ∧ XC E (A.U.calling g mk a) t ∧ t.heap[q]? = some ce ∧ ce.vm = .none ∧ A.U.vm.findClass E = some ce.cls ∧ B.locs = A.locs ++ L ∧ (∀ z ∈ L, free z.base) ∧ B.cells = A.cells + mc ∧ B.slots = A.slots + ms
def vx_Back (l : Launch) (R : Room) (p : Program) (e : Env) (below : List Frame) (s : State) (sargs : Array Value) (y : MethodName) (len W9 : Nat)
    (Pre : Pt → Array Value → Prop) (Post : Pt → Array Value → Option Value → Pt → Prop) (PostX : Pt → Array Value → Addr → Pt → Prop) : Prop :=
  ∀ (m : MethodId) (meth : Method) (c : Code) (A : Pt) (g : JFrame) (ig : Instr) (mk : MethodId) (a : Array Value),
    Stand p l e R s m sargs below meth c A.U A.locs A.cells A.slots → g.method = m → g.locals.size = c.maxLocals → decode c.code g.pc = .ok (ig, len) →
    2 * g.monitorRoom + (g.stack.map fun v => v.category).sum ≤ W9 → A.U.methodNamed? y = some mk → Pre A a →
    (∃ (v : Option Value) (B : Pt), Stand p l e R s m sargs below meth c B.U B.locs B.cells B.slots ∧ Post A a v B ∧
      Steps p.tables e below (doInvoke e (A.U.setTop g) [] mk a).1 (B.U.setTop { g with pc := g.pc + len, stack := v.toList ++ g.stack })) ∨
    (∃ (q : Addr) (B : Pt), Stand p l e R s m sargs below meth c B.U B.locs B.cells B.slots ∧ PostX A a q B ∧
      Steps p.tables e below (doInvoke e (A.U.setTop g) [] mk a).1 ((B.U.setTop g).pushFrame (.throwing q)))
section Payer
variable {l : Launch} {R : Room} {p : Program} {e : Env} {below : List Frame} {s : State} {sargs : Array Value} {y : MethodName} {len W9 : Nat}
theorem vx_back {ws : List Cond} {rm : Room} {Pc : Array Value → State → Prop} {Qc : Array Value → State → Outcome → State → Prop} {XC : String → State → State → Prop} {mc ms : Nat} {free : Addr → Prop} {bytes : ByteArray} {maxL : Nat} {ret : Option FieldType}
    (hM : vx_Met l y ws rm Pc Qc XC mc ms free) (hblind : FrameBlind Pc) (hrc : rm.cells = mc) (hrs : rm.slots = ms)
    (hframes : rm.frames + 1 ≤ R.frames) (hlocals : W9 + (maxL + 11) + rm.locals ≤ R.locals)
    (hws : ∀ w ∈ ws, ∀ a' U, s.WarmedH U.vm → w.before a' U = true) (hcode : Cond.code y bytes maxL ret ∈ ws) (hinit : ∀ a' U, s.WarmedH U.vm → (Cond.initialized y.cls).before a' U = true) :
    vx_Back l R p e below s sargs y len W9 (PreOf R mc ms Pc) (PostOf Qc mc ms free) (vx_Post XC mc ms free) := by
  intro m meth c A g ig mk a X hg hsize hdg hW hn hp
  have h1 : (headSpec ws rm).pre.before a A.U = true := atoms_intro fun w hw => hws w hw _ _ X.warmed
  have h2 : (Cond.code y bytes maxL ret).before a A.U = true := hws _ hcode _ _ X.warmed
  have h3 : (Cond.initialized y.cls).before a A.U = true := hinit _ _ X.warmed
  have h4 : A.cells + (headSpec ws rm).room.cells ≤ R.cells := by rw [show (headSpec ws rm).room.cells = mc from hrc]; exact hp.1
  have h5 : A.slots + (headSpec ws rm).room.slots ≤ R.slots := by rw [show (headSpec ws rm).room.slots = ms from hrs]; exact hp.2.1
  have hPc : Pc a (A.U.calling g mk a) := hblind _ _ _ _ hp.2.2
  obtain ⟨U, Ls, c0, s0⟩ := A
  dsimp only [Pt.U, Pt.locs, Pt.cells, Pt.slots] at h1 h2 h3 h4 h5 X hn hPc ⊢
  obtain ⟨methY, cY, hmY, hcY, -, hlY, -, -, -, -⟩ := Cond.code_spec hn h2
  obtain ⟨kY, hkY, -⟩ := className_of_methodNamed hn
  have hinitY : kY.init = .initialized := Cond.initialized_spec (findClass_of_methodNamed hn) hkY h3
  have h : At U g.method c below := by rw [hg]; exact X.here
  have hlocals9 : W9 + (maxL + 11) + (headSpec ws rm).room.locals ≤ R.locals := hlocals
  have happ : (headSpec ws rm).appliesLoose y e.platform (U.calling g mk a) = true :=
    Spec.appliesLoose_calling (g := g) h hdg hn hkY hinitY
      (X.room_calling (g := g) (R' := (headSpec ws rm).room) hsize hmY hcY hframes (by rw [hlY]; omega) h4 h5) h1
  obtain ⟨mid, hmid⟩ := h.above
  have hfr : (U.setTop g).frames = (.java g :: mid) ++ below := by rw [State.frames_setTop' g h.top, hmid]; rfl
  obtain ⟨o, s₂, hsteps, -, hend, hq⟩ := Steps.callFree hM p X.admits X.cas X.clock (acts := []) hfr happ hPc trivial
  have hq' : vx_Q Qc XC mc ms free a (U.calling g mk a) o s₂ := hq
  rw [State.frames_setTop' g h.top] at hend
  obtain ⟨g₀, hg0⟩ := Option.isSome_iff_exists.mp h.top
  obtain ⟨r, hr⟩ := State.topJava?_eq_some.mp hg0
  have hr' : (({ U with heap := s₂.heap, slotsUsed := s₂.slotsUsed } : State).setVm s₂.vm).frames = .java g₀ :: r := hr
  rcases hq' with ⟨hqc, L, hfe, hL⟩ | ⟨q, rfl, E, ce, L, hx, hce, hcv, hcl, hW₂, hsm, hL⟩
  · obtain ⟨⟨v, rfl⟩, hW₂, e2, q2, q3, q4, q5, q6⟩ := id hfe
    have e3 : s₂ = ({ (U.calling g mk a).setFrames s₂.frames with heap := s₂.heap, slotsUsed := s₂.slotsUsed } : State).setVm s₂.vm := by
      have : s₂ = ({ s₂ with vm := (U.calling g mk a).vm } : State).setVm s₂.vm := rfl
      rw [e2] at this
      exact this
    obtain ⟨c₂, i₂, len₂, hc₂, hd₂, hf₂⟩ := hend
    have hW' : U.WarmedH s₂.vm := hW₂
    have hcc : c₂ = c := by
      have h1 : s₂.code? g.method = U.code? g.method := by
        rw [State.code?_eq, State.code?_eq, hW'.alike.method?]
      exact Option.some.inj (hc₂.symm.trans (h1.trans h.code))
    subst hcc
    have hlen : len₂ = len := by rw [hdg] at hd₂; cases hd₂; rfl
    subst hlen
    have hs₂ : s₂ = (({ U with heap := s₂.heap, slotsUsed := s₂.slotsUsed } : State).setVm s₂.vm).setTop { g with pc := g.pc + len₂, stack := v.toList ++ g.stack } := by
      refine e3.trans ?_
      rw [hf₂, State.calling_eq h.top, State.setFrames_setFrames, State.setTop_of_frames _ hr', hr]
      rfl
    have hsame : U.sameButNew ({ U with heap := s₂.heap, slotsUsed := s₂.slotsUsed } : State) L mc ms := by
      refine ⟨?_, q2, q3, q4, q5, q6⟩
      obtain ⟨t, ht, -⟩ := State.frames_cons hr
      show ({ U with heap := s₂.heap, slotsUsed := s₂.slotsUsed } : State) = { U.setFrames U.frames with heap := s₂.heap, slotsUsed := s₂.slotsUsed }
      rw [State.setFrames_self ht]
    subst hg
    refine Or.inl ⟨v, ⟨(({ U with heap := s₂.heap, slotsUsed := s₂.slotsUsed } : State).setVm s₂.vm), Ls ++ L, c0 + mc, s0 + ms⟩,
      ⟨X.admits, X.cas, X.clock, X.frames, X.room, X.hears, X.method, X.code, (X.here.setHeapUsed s₂.heap s₂.slotsUsed).setVm hW'.alike, X.tail, State.WarmedH.trans X.warmed hW', X.limits, X.bytes, X.same.trans (hsame.setVm s.vm)⟩,
      ⟨g, mk, s₂, L, rfl, rfl, hqc, rfl, hL, rfl, rfl⟩, ?_⟩
    show Steps p.tables e below _ ((({ U with heap := s₂.heap, slotsUsed := s₂.slotsUsed } : State).setVm s₂.vm).setTop { g with pc := g.pc + len₂, stack := v.toList ++ g.stack })
    rw [← hs₂]
    exact hsteps
  · obtain ⟨e2, q2, q3, q4, q5, q6⟩ := id hsm
    have e3 : s₂ = ({ (U.calling g mk a).setFrames s₂.frames with heap := s₂.heap, slotsUsed := s₂.slotsUsed } : State).setVm s₂.vm := by
      have : s₂ = ({ s₂ with vm := (U.calling g mk a).vm } : State).setVm s₂.vm := rfl
      rw [e2] at this
      exact this
    have hf₂ : s₂.frames = .throwing q :: .java g :: U.frames.tail := hend
    have hW' : U.WarmedH s₂.vm := hW₂
    have hs₂ : s₂ = ((({ U with heap := s₂.heap, slotsUsed := s₂.slotsUsed } : State).setVm s₂.vm).setTop g).pushFrame (.throwing q) := by
      refine e3.trans ?_
      rw [hf₂, State.calling_eq h.top, State.setFrames_setFrames, State.pushFrame, State.frames_setTop _ hr', State.setTop_of_frames _ hr', State.setFrames_setFrames, hr]
      rfl
    have hsame : U.sameButNew ({ U with heap := s₂.heap, slotsUsed := s₂.slotsUsed } : State) L mc ms := by
      refine ⟨?_, q2, q3, q4, q5, q6⟩
      obtain ⟨t, ht, -⟩ := State.frames_cons hr
      show ({ U with heap := s₂.heap, slotsUsed := s₂.slotsUsed } : State) = { U.setFrames U.frames with heap := s₂.heap, slotsUsed := s₂.slotsUsed }
      rw [State.setFrames_self ht]
    subst hg
    refine Or.inr ⟨q, ⟨(({ U with heap := s₂.heap, slotsUsed := s₂.slotsUsed } : State).setVm s₂.vm), Ls ++ L, c0 + mc, s0 + ms⟩,
      ⟨X.admits, X.cas, X.clock, X.frames, X.room, X.hears, X.method, X.code, (X.here.setHeapUsed s₂.heap s₂.slotsUsed).setVm hW'.alike, X.tail, State.WarmedH.trans X.warmed hW', X.limits, X.bytes, X.same.trans (hsame.setVm s.vm)⟩,
      ⟨g, mk, s₂, L, E, ce, rfl, rfl, hx, hce, hcv, hcl, rfl, hL, rfl, rfl⟩, ?_⟩
    show Steps p.tables e below _ (((({ U with heap := s₂.heap, slotsUsed := s₂.slotsUsed } : State).setVm s₂.vm).setTop g).pushFrame (.throwing q))
    rw [← hs₂]
    exact hsteps
end Payer
section Calls
variable {p : Program} {l : Launch} {e : Env} {R : Room} {s : State} {m : MethodId} {args : Array Value} {below : List Frame} {meth : Method} {c : Code} {T : State} {locs : List Loc} {cells slots : Nat}
theorem vx_callV (X : Stand p l e R s m args below meth c T locs cells slots) (hexec : p.tables.exec = Jvm.exec) {own C : String} {index : Nat} {y : MethodName} {bytes : ByteArray} {maxL : Nat} {ret : Option FieldType}
    (hown : s.vm.findClass own = some m.cls) (hlink : (Cond.methodLink own index y).before args s = true) (hinst : (Cond.instanceMethod y).before args s = true) (hsel : (Cond.selects C y y).before args s = true)
    (hcode : (Cond.code y bytes maxL ret).before args s = true) (hy : y.cls ≠ "java/lang/invoke/MethodHandle" ∧ y.cls ≠ "java/lang/invoke/VarHandle")
    {W9 : Nat} {Pre : Pt → Array Value → Prop} {Post : Pt → Array Value → Option Value → Pt → Prop} {PostX : Pt → Array Value → Addr → Pt → Prop} (hK : vx_Back l R p e below s args y 3 W9 Pre Post PostX)
    {b : Addr} {cellB : Cell} (hcell : T.heap[b]? = some cellB) (hobj : cellB.vm.isStatics = false) (hcls : s.vm.findClass C = some cellB.cls)
    {g : JFrame} (hg : g.method = m) (hsize : g.locals.size = c.maxLocals) {argsL rest : List Value} (hlen : ∀ sig, parseMethodDescriptor y.desc = some sig → argsL.length = sig.parameters.length)
    (hstack : g.stack = argsL.reverse ++ .ref b :: rest) (hW : 2 * g.monitorRoom + (rest.map fun v => v.category).sum ≤ W9) (hdg : decode c.code g.pc = .ok (.invokevirtual index, 3))
    (hpre : ∀ vm₁, s.WarmedH vm₁ → Pre ⟨T.setVm vm₁, locs, cells, slots⟩ (Value.ref b :: argsL).toArray) :
    (∃ (v : Option Value) (vm₁ : Vm) (B : Pt), s.WarmedH vm₁ ∧ Stand p l e R s m args below meth c B.U B.locs B.cells B.slots ∧ Post ⟨T.setVm vm₁, locs, cells, slots⟩ (Value.ref b :: argsL).toArray v B ∧
      ∀ target, Steps p.tables e below (B.U.setTop { g with pc := g.pc + 3, stack := v.toList ++ rest }) target → Steps p.tables e below (T.setTop g) target) ∨
    (∃ (q : Addr) (vm₁ : Vm) (B : Pt), s.WarmedH vm₁ ∧ Stand p l e R s m args below meth c B.U B.locs B.cells B.slots ∧ PostX ⟨T.setVm vm₁, locs, cells, slots⟩ (Value.ref b :: argsL).toArray q B ∧
      Steps p.tables e below (T.setTop g) ((B.U.setTop { g with stack := rest }).pushFrame (.throwing q))) := by
  obtain ⟨mk, methM, hnamed, hmethM, hstM, habM⟩ := Cond.instanceMethod_spec hinst
  obtain ⟨methM', cM, hmethM', -, -, -, -, -, -, hsigM⟩ := Cond.code_spec hnamed hcode
  cases hmethM.symm.trans hmethM'
  obtain ⟨c2, r2, m2, q1, q2, q3, q4, kP, hkP, hkPi⟩ := Cond.selects_spec hsel
  cases hcls.symm.trans q1
  cases (State.methodFound?_of_named hnamed hy).symm.trans q2
  cases hnamed.symm.trans q3
  have hselP : selectMethod e.platform s.vm cellB.cls mk = .method mk := by rw [Launch.admits_selectMethod X.admits]; exact q4
  obtain ⟨vm₁, X₁, hstep₁⟩ := X.invokevirtual hexec hown hlink hnamed hmethM hstM hkP hkPi hy (a := b) (cell := cellB) hcell
    (fun z h => by rw [h] at hobj; cases hobj) hselP hmethM habM hkP hkPi (g := g) hg (argsL := argsL) (rest := rest) (hlen _ hsigM) hstack hdg
  rcases hK m meth c ⟨T.setVm vm₁, locs, cells, slots⟩ { g with stack := rest } (.invokevirtual index) mk (Value.ref b :: argsL).toArray X₁ hg hsize hdg hW (X₁.named hnamed) (hpre vm₁ X₁.warmed) with ⟨v, B, X', hpost, hsteps⟩ | ⟨q, B, X', hpost, hsteps⟩
  · exact Or.inl ⟨v, vm₁, B, X₁.warmed, X', hpost, fun target h => hstep₁ _ fun acts => by rw [doInvoke_state]; exact hsteps.trans h⟩
  · exact Or.inr ⟨q, vm₁, B, X₁.warmed, X', hpost, hstep₁ _ fun acts => by rw [doInvoke_state]; exact hsteps⟩
theorem vx_callS (X : Stand p l e R s m args below meth c T locs cells slots) (hexec : p.tables.exec = Jvm.exec) {own : String} {index : Nat} {y : MethodName} {bytes : ByteArray} {maxL : Nat} {ret : Option FieldType}
    (hown : s.vm.findClass own = some m.cls) (hlink : (Cond.methodLink own index y).before args s = true) (hstat : (Cond.static y).before args s = true) (hinit : (Cond.initialized y.cls).before args s = true)
    (hcode : (Cond.code y bytes maxL ret).before args s = true) (hy : y.cls ≠ "java/lang/invoke/MethodHandle" ∧ y.cls ≠ "java/lang/invoke/VarHandle")
    {W9 : Nat} {Pre : Pt → Array Value → Prop} {Post : Pt → Array Value → Option Value → Pt → Prop} {PostX : Pt → Array Value → Addr → Pt → Prop} (hK : vx_Back l R p e below s args y 3 W9 Pre Post PostX)
    {g : JFrame} (hg : g.method = m) (hsize : g.locals.size = c.maxLocals) {argsL rest : List Value} (hlen : ∀ sig, parseMethodDescriptor y.desc = some sig → argsL.length = sig.parameters.length)
    (hstack : g.stack = argsL.reverse ++ rest) (hW : 2 * g.monitorRoom + (rest.map fun v => v.category).sum ≤ W9) (hdg : decode c.code g.pc = .ok (.invokestatic index, 3))
    (hpre : ∀ vm₁, s.WarmedH vm₁ → Pre ⟨T.setVm vm₁, locs, cells, slots⟩ argsL.toArray) :
    (∃ (v : Option Value) (vm₁ : Vm) (B : Pt), s.WarmedH vm₁ ∧ Stand p l e R s m args below meth c B.U B.locs B.cells B.slots ∧ Post ⟨T.setVm vm₁, locs, cells, slots⟩ argsL.toArray v B ∧
      ∀ target, Steps p.tables e below (B.U.setTop { g with pc := g.pc + 3, stack := v.toList ++ rest }) target → Steps p.tables e below (T.setTop g) target) ∨
    (∃ (q : Addr) (vm₁ : Vm) (B : Pt), s.WarmedH vm₁ ∧ Stand p l e R s m args below meth c B.U B.locs B.cells B.slots ∧ PostX ⟨T.setVm vm₁, locs, cells, slots⟩ argsL.toArray q B ∧
      Steps p.tables e below (T.setTop g) ((B.U.setTop { g with stack := rest }).pushFrame (.throwing q))) := by
  obtain ⟨mk, hnamed⟩ := Cond.code_named hcode
  obtain ⟨methM, cM, hmethM, -, -, -, -, -, -, hsigM⟩ := Cond.code_spec hnamed hcode
  have hstatic : methM.isStatic = true := Cond.static_spec hnamed hmethM hstat
  obtain ⟨kP, hkP, -⟩ := className_of_methodNamed hnamed
  have hinitP : kP.init = .initialized := Cond.initialized_spec (findClass_of_methodNamed hnamed) hkP hinit
  obtain ⟨vm₁, X₁, hstep₁⟩ := X.invokestatic hexec hown hlink hnamed hmethM hstatic hkP hinitP hy (g := g) hg (argsL := argsL) (rest := rest) (hlen _ hsigM) hstack hdg
  rcases hK m meth c ⟨T.setVm vm₁, locs, cells, slots⟩ { g with stack := rest } (.invokestatic index) mk argsL.toArray X₁ hg hsize hdg hW (X₁.named hnamed) (hpre vm₁ X₁.warmed) with ⟨v, B, X', hpost, hsteps⟩ | ⟨q, B, X', hpost, hsteps⟩
  · exact Or.inl ⟨v, vm₁, B, X₁.warmed, X', hpost, fun target h => hstep₁ _ fun acts => by rw [doInvoke_state]; exact hsteps.trans h⟩
  · exact Or.inr ⟨q, vm₁, B, X₁.warmed, X', hpost, hstep₁ _ fun acts => by rw [doInvoke_state]; exact hsteps⟩
end Calls
theorem vx_cls {s : State} {T : State} {vm₁ : Vm} {E : String} {k : ClassId} (hW : s.WarmedH vm₁) (h : (T.setVm vm₁).vm.findClass E = some k) : s.vm.findClass E = some k := by
  have h1 : vm₁.findClass E = some k := h
  rw [hW.alike.findClass] at h1
  exact h1
/-- the method's frame g, with q thrown over it -/
def vx_W (p : Program) (l : Launch) (e : Env) (R : Room) (s : State) (m : MethodId) (args : Array Value) (below : List Frame) (meth : Method) (c : Code) (H : Heap) (locs : List Loc) (cells slots : Nat) (Q : State → Prop) (g : JFrame) (q : Addr) : Prop :=
  ∀ T : State, T.heap = H → Stand p l e R s m args below meth c T locs cells slots → ∃ t, Steps p.tables e below ((T.setTop g).pushFrame (.throwing q)) t ∧ Q t
def vx_Run (p : Program) (l : Launch) (e : Env) (R : Room) (s : State) (m : MethodId) (args : Array Value) (below : List Frame) (meth : Method) (c : Code) (H : Heap) (locs : List Loc) (cells slots mc ms : Nat) (g : JFrame) (rest : List Value) (Qa : State → Outcome → State → Prop) (XC : String → State → State → Prop) (free : Addr → Prop) : Prop :=
  ∀ T : State, T.heap = H → Stand p l e R s m args below meth c T locs cells slots →
    (∃ (v : Option Value) (st₀ t T' : State) (L : List Loc), st₀.heap = H ∧ Stand p l e R s m args below meth c T' (locs ++ L) (cells + mc) (slots + ms) ∧ (∀ q ∈ L, free q.base) ∧ T'.heap = t.heap ∧ T'.vm = t.vm ∧ Qa st₀ (.returned v) t ∧
      Goes p e below T g T' { g with pc := g.pc + 3, stack := v.toList ++ rest }) ∨
    (∃ (q : Addr) (st₀ t T' : State) (L : List Loc) (E : String) (ce : Cell), st₀.heap = H ∧ Stand p l e R s m args below meth c T' (locs ++ L) (cells + mc) (slots + ms) ∧ (∀ z ∈ L, free z.base) ∧ T'.heap = t.heap ∧ T'.vm = t.vm ∧ XC E st₀ t ∧ t.heap[q]? = some ce ∧ ce.vm = .none ∧ s.vm.findClass E = some ce.cls ∧
      Steps p.tables e below (T.setTop g) ((T'.setTop { g with stack := rest }).pushFrame (.throwing q)))
def vx_X {S : Type} (px : S → Prop) (B : String → S → State → Prop) (A : Nat → Prop) : String → State → State → Prop := fun E st t => ∃ u : S, px u ∧ B E u t ∧ va_F A st t
section Runs
variable {p : Program} {l : Launch} {e : Env} {R : Room} {s : State} {m : MethodId} {args : Array Value} {below : List Frame} {meth : Method} {c : Code} {H : Heap} {locs : List Loc} {cells slots : Nat}
variable {y : MethodName} {bytes cc : ByteArray} {maxL nL mc ms n index : Nat} {ret : Option FieldType} {ws : List Cond} {rm : Room} {Pc : Array Value → State → Prop} {Qc : Array Value → State → Outcome → State → Prop} {XC : String → State → State → Prop} {free : Addr → Prop} {Ts : List Cond} {own C : String} {b : Addr} {As rest : List Value} {g : JFrame}
theorem vx_callBack (cb : CallB R s args own index y bytes maxL ret ws rm mc ms n) (hM : vx_Met l y ws rm Pc Qc XC mc ms free) (hbl : FrameBlind Pc) : vx_Back l R p e below s args y 3 8 (PreOf R mc ms Pc) (PostOf Qc mc ms free) (vx_Post XC mc ms free) := by
  obtain ⟨hrc, hrs, hfr, hlo, hws, hcw, -, hini, -⟩ := cb
  exact vx_back (bytes := bytes) (maxL := maxL) (ret := ret) hM hbl hrc hrs hfr hlo hws hcw (fun a' U hW => word_at hW (Or.inl (by first | rfl | simp [Cond.onTables, Cond.keeps, Cond.steady])) hini)
theorem vx_runV (S : CallFix p m c cc nL s args Ts own) (hM : vx_Met l y ws rm Pc Qc XC mc ms free) (cw : CallW R s args own C index y bytes maxL ret ws rm mc ms n) (hp : PreV s H C b Pc As)
    (hg : g.method = m) (hn : As.length = n) (hsize : g.locals.size = nL) (hstack : g.stack = As.reverse ++ .ref b :: rest) (hW : 2 * g.monitorRoom + (rest.map fun v => v.category).sum ≤ 8) (hdg : decode cc g.pc = .ok (.invokevirtual index, 3)) (hf : cells + mc ≤ R.cells ∧ slots + ms ≤ R.slots) :
    vx_Run p l e R s m args below meth c H locs cells slots mc ms g rest (Qc (Value.ref b :: As).toArray) XC free := by
  have hK : vx_Back l R p e below s args y 3 8 (PreOf R mc ms Pc) (PostOf Qc mc ms free) (vx_Post XC mc ms free) := vx_callBack cw.1 hM hp.1
  obtain ⟨⟨-, -, -, -, -, -, hcode, -, hy, hlen, hl⟩, hin, hse⟩ := cw
  obtain ⟨hx, hb, hml, ho, -⟩ := S
  obtain ⟨-, ⟨cellB, hcB, hoB, hclB⟩, hPc⟩ := hp
  intro T hT X
  rcases vx_callV X hx (C := C) (bytes := bytes) (maxL := maxL) (ret := ret) ho hl hin hse hcode hy hK (by rw [hT]; exact hcB) hoB hclB hg (hsize.trans hml.symm) (argsL := As) (rest := rest) (fun sig h => hn.trans (hlen sig h)) hstack hW (by rw [hb]; exact hdg)
    (fun vm₁ hW₁ => ⟨hf.1, hf.2, hPc (T.setVm vm₁) hT hW₁⟩) with ⟨v, vm₁, ⟨U', l2, c2, s2⟩, hW₁, X', ⟨g', mk, t, L, e1, e2, hq, h1, hL, h2, h3⟩, st⟩ | ⟨q, vm₁, ⟨U', l2, c2, s2⟩, hW₁, X', ⟨g', mk, t, L, E, ce, e1, e2, hq, hce, hcv, hcl, h1, hL, h2, h3⟩, st⟩
  · dsimp only [Pt.U, Pt.locs, Pt.cells, Pt.slots] at X' e1 e2 h1 h2 h3 st
    subst h1; subst h2; subst h3
    exact Or.inl ⟨v, (T.setVm vm₁).calling g' mk (Value.ref b :: As).toArray, t, U', L, hT, X', hL, e1, e2, hq, st⟩
  · dsimp only [Pt.U, Pt.locs, Pt.cells, Pt.slots] at X' e1 e2 h1 h2 h3 st hcl
    subst h1; subst h2; subst h3
    exact Or.inr ⟨q, (T.setVm vm₁).calling g' mk (Value.ref b :: As).toArray, t, U', L, E, ce, hT, X', hL, e1, e2, hq, hce, hcv, vx_cls hW₁ hcl, st⟩
theorem vx_runS (S : CallFix p m c cc nL s args Ts own) (hM : vx_Met l y ws rm Pc Qc XC mc ms free) (cw : CallB R s args own index y bytes maxL ret ws rm mc ms n ∧ (Cond.static y).before args s = true) (hp : PreS s H Pc As)
    (hg : g.method = m) (hn : As.length = n) (hsize : g.locals.size = nL) (hstack : g.stack = As.reverse ++ rest) (hW : 2 * g.monitorRoom + (rest.map fun v => v.category).sum ≤ 8) (hdg : decode cc g.pc = .ok (.invokestatic index, 3)) (hf : cells + mc ≤ R.cells ∧ slots + ms ≤ R.slots) :
    vx_Run p l e R s m args below meth c H locs cells slots mc ms g rest (Qc As.toArray) XC free := by
  have hK : vx_Back l R p e below s args y 3 8 (PreOf R mc ms Pc) (PostOf Qc mc ms free) (vx_Post XC mc ms free) := vx_callBack cw.1 hM hp.1
  obtain ⟨⟨-, -, -, -, -, -, hcode, hini, hy, hlen, hl⟩, hstt⟩ := cw
  obtain ⟨hx, hb, hml, ho, -⟩ := S
  intro T hT X
  rcases vx_callS X hx (bytes := bytes) (maxL := maxL) (ret := ret) ho hl hstt hini hcode hy hK hg (hsize.trans hml.symm) (argsL := As) (rest := rest) (fun sig h => hn.trans (hlen sig h)) hstack hW (by rw [hb]; exact hdg)
    (fun vm₁ hW₁ => ⟨hf.1, hf.2, hp.2 (T.setVm vm₁) hT hW₁⟩) with ⟨v, vm₁, ⟨U', l2, c2, s2⟩, hW₁, X', ⟨g', mk, t, L, e1, e2, hq, h1, hL, h2, h3⟩, st⟩ | ⟨q, vm₁, ⟨U', l2, c2, s2⟩, hW₁, X', ⟨g', mk, t, L, E, ce, e1, e2, hq, hce, hcv, hcl, h1, hL, h2, h3⟩, st⟩
  · dsimp only [Pt.U, Pt.locs, Pt.cells, Pt.slots] at X' e1 e2 h1 h2 h3 st
    subst h1; subst h2; subst h3
    exact Or.inl ⟨v, (T.setVm vm₁).calling g' mk As.toArray, t, U', L, hT, X', hL, e1, e2, hq, st⟩
  · dsimp only [Pt.U, Pt.locs, Pt.cells, Pt.slots] at X' e1 e2 h1 h2 h3 st hcl
    subst h1; subst h2; subst h3
    exact Or.inr ⟨q, (T.setVm vm₁).calling g' mk As.toArray, t, U', L, E, ce, hT, X', hL, e1, e2, hq, hce, hcv, vx_cls hW₁ hcl, st⟩
end Runs
section Rows
variable {p : Program} {l : Launch} {e : Env} {R : Room} {s : State} {m : MethodId} {args : Array Value} {below : List Frame} {meth : Method} {c : Code} {H : Heap} {locs : List Loc} {cells slots : Nat} {Q : State → Prop}
variable {mc ms : Nat} {free : Addr → Prop} {A0 A1 : Nat → Prop} {H0 : Heap} {a : Array Value} {pc : Nat} {ls : Array Slot} {st0 rest : List Value}
theorem vx_keep {st₀ t T' : State} {L : List Loc} (h0 : st₀.heap = H) (e1 : T'.heap = t.heap) (hS : va_S A0 H0 H locs) (hA : ∀ q, q < H.size → A1 q → A0 q) (hf : ∀ q, free q → A0 q) (hL : ∀ q ∈ L, free q.base) (hF : va_F A1 st₀ t) :
    H.size ≤ T'.heap.size ∧ (∀ q : Nat, q < H.size → ¬ A1 q → T'.heap[q]? = H[q]?) ∧ va_S A0 H0 T'.heap (locs ++ L) := by
  obtain ⟨hz, hk⟩ := hF
  rw [h0] at hz hk
  exact ⟨by rw [e1]; exact hz, fun q h1 h2 => by rw [e1]; exact hk q h1 h2,
    ⟨Nat.le_trans hS.1 (by rw [e1]; exact hz), fun q h1 h2 => by rw [e1, hk q (Nat.lt_of_lt_of_le h1 hS.1) (fun z => h2 (hA q (Nat.lt_of_lt_of_le h1 hS.1) z))]; exact hS.2.1 q h1 h2, fun q hq => by
      rcases List.mem_append.mp hq with h | h
      · exact hS.2.2 q h
      · exact hf _ (hL q h)⟩⟩
theorem vx_calli {S SX : Type} {post : Int32 → S → Prop} {px : SX → Prop} {B : S → State → Prop} {BX : String → SX → State → Prop} {AX : Nat → Prop} (hr : vx_Run p l e R s m args below meth c H locs cells slots mc ms (F0 m pc ls st0) rest (va_Qi post B A1 a) (vx_X px BX AX) free) (hS : va_S A0 H0 H locs) (hA : ∀ q, q < H.size → A1 q → A0 q) (hf : ∀ q, free q → A0 q) (hAX : ∀ q, q < H.size → AX q → A0 q)
    (kx : ∀ (E : String) (ce : Cell) (q9 : Addr) (u : SX) (t : State) (H1 : Heap) (locs1 : List Loc), t.heap = H1 → s.vm.Alike t.vm → px u → BX E u t → H.size ≤ H1.size → (∀ q : Nat, q < H.size → ¬ AX q → H1[q]? = H[q]?) → va_S A0 H0 H1 locs1 → H1[q9]? = some ce → ce.vm = .none → s.vm.findClass E = some ce.cls → vx_W p l e R s m args below meth c H1 locs1 (cells + mc) (slots + ms) Q (F0 m pc ls rest) q9)
    (kk : ∀ (r : Int32) (u : S) (t : State) (H1 : Heap) (locs1 : List Loc), t.heap = H1 → s.vm.Alike t.vm → post r u → B u t → H.size ≤ H1.size → (∀ q : Nat, q < H.size → ¬ A1 q → H1[q]? = H[q]?) → va_S A0 H0 H1 locs1 → W p l e R s m args below meth c H1 locs1 (cells + mc) (slots + ms) Q (F0 m (pc + 3) ls (.int r :: rest))) : W p l e R s m args below meth c H locs cells slots Q (F0 m pc ls st0) := by
  intro T hT X
  rcases hr T hT X with ⟨v, st₀, t, T', L, h0, X', hL, e1, e2, ⟨⟨r, u, hv, hp, hb⟩, hF⟩, st⟩ | ⟨q, st₀, t, T', L, E, ce, h0, X', hL, e1, e2, ⟨u, hp, hb, hF⟩, hce, hcv, hcl, st⟩
  · cases hv
    obtain ⟨k1, k2, k3⟩ := vx_keep h0 e1 hS hA hf hL hF
    obtain ⟨t2, a1, b1⟩ := kk r u t T'.heap (locs ++ L) e1.symm (by rw [← e2]; exact X'.warmed.alike) hp hb k1 k2 k3 T' rfl X'
    exact ⟨t2, st t2 a1, b1⟩
  · obtain ⟨k1, k2, k3⟩ := vx_keep h0 e1 hS hAX hf hL hF
    obtain ⟨t2, a1, b1⟩ := kx E ce q u t T'.heap (locs ++ L) e1.symm (by rw [← e2]; exact X'.warmed.alike) hp hb k1 k2 k3 (by rw [e1]; exact hce) hcv hcl T' rfl X'
    exact ⟨t2, st.trans a1, b1⟩
theorem vx_calll {S SX : Type} {post : Int64 → S → Prop} {px : SX → Prop} {B : S → State → Prop} {BX : String → SX → State → Prop} {AX : Nat → Prop} (hr : vx_Run p l e R s m args below meth c H locs cells slots mc ms (F0 m pc ls st0) rest (va_Ql post B A1 a) (vx_X px BX AX) free) (hS : va_S A0 H0 H locs) (hA : ∀ q, q < H.size → A1 q → A0 q) (hf : ∀ q, free q → A0 q) (hAX : ∀ q, q < H.size → AX q → A0 q)
    (kx : ∀ (E : String) (ce : Cell) (q9 : Addr) (u : SX) (t : State) (H1 : Heap) (locs1 : List Loc), t.heap = H1 → s.vm.Alike t.vm → px u → BX E u t → H.size ≤ H1.size → (∀ q : Nat, q < H.size → ¬ AX q → H1[q]? = H[q]?) → va_S A0 H0 H1 locs1 → H1[q9]? = some ce → ce.vm = .none → s.vm.findClass E = some ce.cls → vx_W p l e R s m args below meth c H1 locs1 (cells + mc) (slots + ms) Q (F0 m pc ls rest) q9)
    (kk : ∀ (r : Int64) (u : S) (t : State) (H1 : Heap) (locs1 : List Loc), t.heap = H1 → s.vm.Alike t.vm → post r u → B u t → H.size ≤ H1.size → (∀ q : Nat, q < H.size → ¬ A1 q → H1[q]? = H[q]?) → va_S A0 H0 H1 locs1 → W p l e R s m args below meth c H1 locs1 (cells + mc) (slots + ms) Q (F0 m (pc + 3) ls (.long r :: rest))) : W p l e R s m args below meth c H locs cells slots Q (F0 m pc ls st0) := by
  intro T hT X
  rcases hr T hT X with ⟨v, st₀, t, T', L, h0, X', hL, e1, e2, ⟨⟨r, u, hv, hp, hb⟩, hF⟩, st⟩ | ⟨q, st₀, t, T', L, E, ce, h0, X', hL, e1, e2, ⟨u, hp, hb, hF⟩, hce, hcv, hcl, st⟩
  · cases hv
    obtain ⟨k1, k2, k3⟩ := vx_keep h0 e1 hS hA hf hL hF
    obtain ⟨t2, a1, b1⟩ := kk r u t T'.heap (locs ++ L) e1.symm (by rw [← e2]; exact X'.warmed.alike) hp hb k1 k2 k3 T' rfl X'
    exact ⟨t2, st t2 a1, b1⟩
  · obtain ⟨k1, k2, k3⟩ := vx_keep h0 e1 hS hAX hf hL hF
    obtain ⟨t2, a1, b1⟩ := kx E ce q u t T'.heap (locs ++ L) e1.symm (by rw [← e2]; exact X'.warmed.alike) hp hb k1 k2 k3 (by rw [e1]; exact hce) hcv hcl T' rfl X'
    exact ⟨t2, st.trans a1, b1⟩
theorem vx_callf {S SX : Type} {post : UInt32 → S → Prop} {px : SX → Prop} {B : S → State → Prop} {BX : String → SX → State → Prop} {AX : Nat → Prop} (hr : vx_Run p l e R s m args below meth c H locs cells slots mc ms (F0 m pc ls st0) rest (va_Qf post B A1 a) (vx_X px BX AX) free) (hS : va_S A0 H0 H locs) (hA : ∀ q, q < H.size → A1 q → A0 q) (hf : ∀ q, free q → A0 q) (hAX : ∀ q, q < H.size → AX q → A0 q)
    (kx : ∀ (E : String) (ce : Cell) (q9 : Addr) (u : SX) (t : State) (H1 : Heap) (locs1 : List Loc), t.heap = H1 → s.vm.Alike t.vm → px u → BX E u t → H.size ≤ H1.size → (∀ q : Nat, q < H.size → ¬ AX q → H1[q]? = H[q]?) → va_S A0 H0 H1 locs1 → H1[q9]? = some ce → ce.vm = .none → s.vm.findClass E = some ce.cls → vx_W p l e R s m args below meth c H1 locs1 (cells + mc) (slots + ms) Q (F0 m pc ls rest) q9)
    (kk : ∀ (r : UInt32) (u : S) (t : State) (H1 : Heap) (locs1 : List Loc), t.heap = H1 → s.vm.Alike t.vm → post r u → B u t → H.size ≤ H1.size → (∀ q : Nat, q < H.size → ¬ A1 q → H1[q]? = H[q]?) → va_S A0 H0 H1 locs1 → W p l e R s m args below meth c H1 locs1 (cells + mc) (slots + ms) Q (F0 m (pc + 3) ls (.float r :: rest))) : W p l e R s m args below meth c H locs cells slots Q (F0 m pc ls st0) := by
  intro T hT X
  rcases hr T hT X with ⟨v, st₀, t, T', L, h0, X', hL, e1, e2, ⟨⟨r, u, hv, hp, hb⟩, hF⟩, st⟩ | ⟨q, st₀, t, T', L, E, ce, h0, X', hL, e1, e2, ⟨u, hp, hb, hF⟩, hce, hcv, hcl, st⟩
  · cases hv
    obtain ⟨k1, k2, k3⟩ := vx_keep h0 e1 hS hA hf hL hF
    obtain ⟨t2, a1, b1⟩ := kk r u t T'.heap (locs ++ L) e1.symm (by rw [← e2]; exact X'.warmed.alike) hp hb k1 k2 k3 T' rfl X'
    exact ⟨t2, st t2 a1, b1⟩
  · obtain ⟨k1, k2, k3⟩ := vx_keep h0 e1 hS hAX hf hL hF
    obtain ⟨t2, a1, b1⟩ := kx E ce q u t T'.heap (locs ++ L) e1.symm (by rw [← e2]; exact X'.warmed.alike) hp hb k1 k2 k3 (by rw [e1]; exact hce) hcv hcl T' rfl X'
    exact ⟨t2, st.trans a1, b1⟩
theorem vx_calld {S SX : Type} {post : UInt64 → S → Prop} {px : SX → Prop} {B : S → State → Prop} {BX : String → SX → State → Prop} {AX : Nat → Prop} (hr : vx_Run p l e R s m args below meth c H locs cells slots mc ms (F0 m pc ls st0) rest (va_Qd post B A1 a) (vx_X px BX AX) free) (hS : va_S A0 H0 H locs) (hA : ∀ q, q < H.size → A1 q → A0 q) (hf : ∀ q, free q → A0 q) (hAX : ∀ q, q < H.size → AX q → A0 q)
    (kx : ∀ (E : String) (ce : Cell) (q9 : Addr) (u : SX) (t : State) (H1 : Heap) (locs1 : List Loc), t.heap = H1 → s.vm.Alike t.vm → px u → BX E u t → H.size ≤ H1.size → (∀ q : Nat, q < H.size → ¬ AX q → H1[q]? = H[q]?) → va_S A0 H0 H1 locs1 → H1[q9]? = some ce → ce.vm = .none → s.vm.findClass E = some ce.cls → vx_W p l e R s m args below meth c H1 locs1 (cells + mc) (slots + ms) Q (F0 m pc ls rest) q9)
    (kk : ∀ (r : UInt64) (u : S) (t : State) (H1 : Heap) (locs1 : List Loc), t.heap = H1 → s.vm.Alike t.vm → post r u → B u t → H.size ≤ H1.size → (∀ q : Nat, q < H.size → ¬ A1 q → H1[q]? = H[q]?) → va_S A0 H0 H1 locs1 → W p l e R s m args below meth c H1 locs1 (cells + mc) (slots + ms) Q (F0 m (pc + 3) ls (.double r :: rest))) : W p l e R s m args below meth c H locs cells slots Q (F0 m pc ls st0) := by
  intro T hT X
  rcases hr T hT X with ⟨v, st₀, t, T', L, h0, X', hL, e1, e2, ⟨⟨r, u, hv, hp, hb⟩, hF⟩, st⟩ | ⟨q, st₀, t, T', L, E, ce, h0, X', hL, e1, e2, ⟨u, hp, hb, hF⟩, hce, hcv, hcl, st⟩
  · cases hv
    obtain ⟨k1, k2, k3⟩ := vx_keep h0 e1 hS hA hf hL hF
    obtain ⟨t2, a1, b1⟩ := kk r u t T'.heap (locs ++ L) e1.symm (by rw [← e2]; exact X'.warmed.alike) hp hb k1 k2 k3 T' rfl X'
    exact ⟨t2, st t2 a1, b1⟩
  · obtain ⟨k1, k2, k3⟩ := vx_keep h0 e1 hS hAX hf hL hF
    obtain ⟨t2, a1, b1⟩ := kx E ce q u t T'.heap (locs ++ L) e1.symm (by rw [← e2]; exact X'.warmed.alike) hp hb k1 k2 k3 (by rw [e1]; exact hce) hcv hcl T' rfl X'
    exact ⟨t2, st.trans a1, b1⟩
theorem vx_callv {S SX : Type} {post : S → Prop} {px : SX → Prop} {B : S → State → Prop} {BX : String → SX → State → Prop} {AX : Nat → Prop} (hr : vx_Run p l e R s m args below meth c H locs cells slots mc ms (F0 m pc ls st0) rest (va_Qv post B A1 a) (vx_X px BX AX) free) (hS : va_S A0 H0 H locs) (hA : ∀ q, q < H.size → A1 q → A0 q) (hf : ∀ q, free q → A0 q) (hAX : ∀ q, q < H.size → AX q → A0 q)
    (kx : ∀ (E : String) (ce : Cell) (q9 : Addr) (u : SX) (t : State) (H1 : Heap) (locs1 : List Loc), t.heap = H1 → s.vm.Alike t.vm → px u → BX E u t → H.size ≤ H1.size → (∀ q : Nat, q < H.size → ¬ AX q → H1[q]? = H[q]?) → va_S A0 H0 H1 locs1 → H1[q9]? = some ce → ce.vm = .none → s.vm.findClass E = some ce.cls → vx_W p l e R s m args below meth c H1 locs1 (cells + mc) (slots + ms) Q (F0 m pc ls rest) q9)
    (kk : ∀ (u : S) (t : State) (H1 : Heap) (locs1 : List Loc), t.heap = H1 → s.vm.Alike t.vm → post u → B u t → H.size ≤ H1.size → (∀ q : Nat, q < H.size → ¬ A1 q → H1[q]? = H[q]?) → va_S A0 H0 H1 locs1 → W p l e R s m args below meth c H1 locs1 (cells + mc) (slots + ms) Q (F0 m (pc + 3) ls (rest))) : W p l e R s m args below meth c H locs cells slots Q (F0 m pc ls st0) := by
  intro T hT X
  rcases hr T hT X with ⟨v, st₀, t, T', L, h0, X', hL, e1, e2, ⟨⟨u, hv, hp, hb⟩, hF⟩, st⟩ | ⟨q, st₀, t, T', L, E, ce, h0, X', hL, e1, e2, ⟨u, hp, hb, hF⟩, hce, hcv, hcl, st⟩
  · cases hv
    obtain ⟨k1, k2, k3⟩ := vx_keep h0 e1 hS hA hf hL hF
    obtain ⟨t2, a1, b1⟩ := kk u t T'.heap (locs ++ L) e1.symm (by rw [← e2]; exact X'.warmed.alike) hp hb k1 k2 k3 T' rfl X'
    exact ⟨t2, st t2 a1, b1⟩
  · obtain ⟨k1, k2, k3⟩ := vx_keep h0 e1 hS hAX hf hL hF
    obtain ⟨t2, a1, b1⟩ := kx E ce q u t T'.heap (locs ++ L) e1.symm (by rw [← e2]; exact X'.warmed.alike) hp hb k1 k2 k3 (by rw [e1]; exact hce) hcv hcl T' rfl X'
    exact ⟨t2, st.trans a1, b1⟩
/-- caught by the row x of this method's table; the rows ahead don't take it -/
theorem vx_catch {own name : String} {E : String} {ce : Cell} {q : Addr} (hown : s.vm.findClass own = some m.cls) (pre : List ExceptionTableEntry) (x : ExceptionTableEntry) (suf : List ExceptionTableEntry) (hsplit : c.exceptionTable.toList = pre ++ x :: suf)
    (hpass : ∀ z ∈ pre, covers z pc = false ∨ (z.catchType ≠ 0 ∧ ∃ nm : String, (Cond.classLink own z.catchType nm).before args s = true ∧ va_Nc E nm s)) (hx : covers x pc = true) (h0 : x.catchType ≠ 0)
    (hlink : (Cond.classLink own x.catchType name).before args s = true) (hcast : (Cond.castable E name).before args s = true) (hcell : H[q]? = some ce) (hv : ce.vm = .none) (hcl : s.vm.findClass E = some ce.cls)
    (kk : W p l e R s m args below meth c H locs cells slots Q (F0 m x.handlerPc ls [.ref q])) : vx_W p l e R s m args below meth c H locs cells slots Q (F0 m pc ls rest) q := by
  intro T hT X
  have hpl : e.platform.magicAccessors = ({} : Platform).magicAccessors := by rw [X.admits.platform]
  obtain ⟨c3, c4, hc3, hc4, hasg⟩ := Cond.castable_spec hcast
  cases Option.some.inj (hc3.symm.trans hcl)
  obtain ⟨c5, hc5, hcl5⟩ := Cond.classLink_spec hown hlink e.platform hpl
  cases Option.some.inj (hc4.symm.trans hc5)
  obtain ⟨vm', X', st⟩ := X.thenCaughtThrough q (g := F0 m pc ls rest) rfl (Steps.refl _) (by rw [hT]; exact hcell) (by rw [hv]; rfl) (by obtain ⟨k9, h9, -⟩ := Vm.findClass_spec hcl; exact ⟨k9, h9⟩) pre x suf hsplit
    (fun z hz => by
      rcases hpass z hz with h | ⟨hz0, nm, hl1, hn1⟩
      · exact Or.inl h
      · obtain ⟨c6, hc6, hcl6⟩ := Cond.classLink_spec hown hl1 e.platform hpl
        obtain ⟨a8, b8, h1, h2, h3⟩ := hn1
        cases Option.some.inj (h1.symm.trans hcl)
        cases Option.some.inj (h2.symm.trans hc6)
        exact Or.inr ⟨hz0, _, hcl6, h3⟩) hx (Or.inr ⟨h0, c4, hcl5, hasg⟩)
  obtain ⟨t, a1, b1⟩ := kk (T.setVm vm') hT X'
  exact ⟨t, st.trans a1, b1⟩
end Rows
section Ends
variable {p : Program} {l : Launch} {e : Env} {R : Room} {s : State} {m : MethodId} {args : Array Value} {below : List Frame} {meth : Method} {c : Code} {H : Heap} {locs : List Loc} {cells slots : Nat} {Q : State → Prop}
variable {mc ms : Nat} {free : Addr → Prop} {A0 A1 : Nat → Prop} {H0 : Heap} {a : Array Value} {ls : Array Slot} {st0 rest : List Value}
variable {Qc : Array Value → State → Outcome → State → Prop} {XC : String → State → State → Prop}
/-- what a body that may throw owes at its end -/
def vx_MQ (below : List Frame) (Qc : Array Value → State → Outcome → State → Prop) (XC : String → State → State → Prop) (a : Array Value) (s : State) (mc ms : Nat) (free : Addr → Prop) : State → Prop := fun t =>
  ∃ o, t.status = .running ∧ Ended t below o ∧ vx_Q Qc XC mc ms free a s o t
theorem vx_ret {g : JFrame} {mc ms : Nat} (k : W p l e R s m args below meth c H locs cells slots (MQ below Qc args s mc ms free) g) : W p l e R s m args below meth c H locs cells slots (vx_MQ below Qc XC args s mc ms free) g := by
  intro T hT X
  obtain ⟨t, a1, o, b1, b2, b3, b4⟩ := k T hT X
  exact ⟨t, a1, o, b1, b2, Or.inl ⟨b3, b4⟩⟩
/-- not caught here: it goes on to the caller -/
theorem vx_widen {g : JFrame} {q : Addr} {k n : Nat} (h1 : cells ≤ k) (h2 : slots ≤ n) (kk : vx_W p l e R s m args below meth c H locs k n Q g q) : vx_W p l e R s m args below meth c H locs cells slots Q g q := fun T hT X => kk T hT (stand_widen X h1 h2)
theorem vx_out {pc : Nat} {E : String} {ce : Cell} {q : Addr} {mc ms : Nat} (hout : ∀ x ∈ c.exceptionTable.toList, covers x pc = false) (hlocks : meth.locks = false) (hcell : H[q]? = some ce) (hv : ce.vm = .none) (hcl : s.vm.findClass E = some ce.cls)
    (hx : ∀ t : State, t.heap = H → s.vm.Alike t.vm → XC E s t) (hf : ∀ z ∈ locs, free z.base) (hc : cells ≤ mc) (hs : slots ≤ ms) :
    vx_W p l e R s m args below meth c H locs cells slots (vx_MQ below Qc XC args s mc ms free) (F0 m pc ls rest) q := by
  intro T hT X
  obtain ⟨st1, hrun, hend, hW, hsm⟩ := X.leaveThrown q (g := F0 m pc ls rest) rfl rfl rfl hout hlocks
  have hcell9 : (T.setFrames (.throwing q :: below)).heap[q]? = some ce := by
    show T.heap[q]? = some ce
    rw [hT]; exact hcell
  exact ⟨_, st1, .threw q, hrun, hend, Or.inr ⟨q, rfl, E, ce, locs, hx _ hT hW.alike, hcell9, hv, hcl, hW, hsm.mono hc hs, hf⟩⟩
theorem vx_frame {U : State} {k n : Nat} (h : s.sameButNew ({ U with vm := s.vm } : State) locs k n) : s.heap.size ≤ U.heap.size ∧ ∀ q : Nat, q < s.heap.size → (∀ z ∈ locs, z.base ≠ q) → U.heap[q]? = s.heap[q]? := by
  obtain ⟨-, h2, -, -, -, h6⟩ := h
  refine ⟨h2, fun q hq hz => ?_⟩
  obtain ⟨c9, e1, e2, e3, e4⟩ := h6 q _ (Array.getElem?_eq_getElem hq)
  have hs : c9.slots = (s.heap[q]).slots := Array.ext_getElem? fun i => e4 i fun hm => hz _ hm rfl
  have h9 : c9 = s.heap[q] := by
    rw [hs] at e2
    exact e2
  have e5 : U.heap[q]? = some c9 := e1
  rw [e5, h9, Array.getElem?_eq_getElem hq]
/-- the words of a throw but the four that speak of the heap -/
def vx_no (w : Cond) : Bool := decide (w ≠ .isRef (.static Bundle.tN "UNASSIGNED_STACK" Bundle.steD)) && decide (w ≠ .isRef (.static Bundle.tN "SUPPRESSED_SENTINEL" Bundle.listD)) && decide (w ≠ .laysStatic Bundle.tN "UNASSIGNED_STACK" Bundle.steD) && decide (w ≠ .laysStatic Bundle.tN "SUPPRESSED_SENTINEL" Bundle.listD)
def vx_at0 (own : String) (ic : Nat) (X : String) (names : List String) : List Cond := (Bundle.ownAtoms0 own ic X names).filter vx_no
def vx_atS (own : String) (ic : Nat) (X : String) (names : List String) : List Cond := (Bundle.ownAtoms own ic X names).filter vx_no
/-- a word that the tables alone decide, or a good one -/
def vx_ot (w : Cond) : Bool := w.onTables || goodWord w
theorem vx_ot_at {args a' : Array Value} {s U : State} {w : Cond} (hW : s.WarmedH U.vm) (hvm : s.vm = U.vm) (hg : vx_ot w = true) (h : w.before args s = true) : w.before a' U = true := by
  simp only [vx_ot, Bool.or_eq_true] at hg
  rcases hg with hg | hg
  · exact va_tabs hg hvm h
  · exact word_at hW (good_of_word hg) h
/-- a list's words: the good ones out of the method's own list, the others by premises of their own -/
theorem vx_hat {args : Array Value} {s : State} {L B : List Cond} (h1 : ∀ w ∈ L.filter goodWord, w.before args s = true) (h2 : ∀ w ∈ L.filter (fun w => !goodWord w), w ∈ B) (h3 : ∀ w ∈ B, w.before args s = true) : ∀ w ∈ L, w.before args s = true := by
  intro w hw
  by_cases g : goodWord w = true
  · exact h1 w (List.mem_filter.mpr ⟨hw, g⟩)
  · refine h3 w (h2 w (List.mem_filter.mpr ⟨hw, ?_⟩))
    show (!goodWord w) = true
    cases hgw : goodWord w
    · rfl
    · exact absurd hgw g
theorem vx_c {args : Array Value} {s : State} {w : Cond} {B : List Cond} (h : w.before args s = true) (t : ∀ w ∈ B, w.before args s = true) : ∀ w' ∈ w :: B, w'.before args s = true := fun w' h' => (List.mem_cons.mp h').elim (fun e => by rw [e]; exact h) (t w')
theorem vx_n {args : Array Value} {s : State} : ∀ w ∈ ([] : List Cond), w.before args s = true := fun _ h => nomatch h
theorem vx_own {args : Array Value} {s : State} {L : List Cond} (h1 : ∀ w ∈ L.filter vx_no, w.before args s = true)
    (hU : (Cond.isRef (.static Bundle.tN "UNASSIGNED_STACK" Bundle.steD)).before args s = true) (hN : (Cond.isRef (.static Bundle.tN "SUPPRESSED_SENTINEL" Bundle.listD)).before args s = true)
    (lU : (Cond.laysStatic Bundle.tN "UNASSIGNED_STACK" Bundle.steD).before args s = true) (lN : (Cond.laysStatic Bundle.tN "SUPPRESSED_SENTINEL" Bundle.listD).before args s = true) : ∀ w ∈ L, w.before args s = true := by
  intro w hw
  by_cases e1 : w = .isRef (.static Bundle.tN "UNASSIGNED_STACK" Bundle.steD)
  · rw [e1]; exact hU
  · by_cases e2 : w = .isRef (.static Bundle.tN "SUPPRESSED_SENTINEL" Bundle.listD)
    · rw [e2]; exact hN
    · by_cases e3 : w = .laysStatic Bundle.tN "UNASSIGNED_STACK" Bundle.steD
      · rw [e3]; exact lU
      · by_cases e4 : w = .laysStatic Bundle.tN "SUPPRESSED_SENTINEL" Bundle.listD
        · rw [e4]; exact lN
        · exact h1 w (List.mem_filter.mpr ⟨hw, by unfold vx_no; rw [decide_eq_true e1, decide_eq_true e2, decide_eq_true e3, decide_eq_true e4]; rfl⟩)
/-- where a static field lies, its class's statics cell in H -/
def vx_L (C n d : String) (A : Nat → Prop) (U : State) (H : Heap) : Prop := ∃ (c : ClassId) (k : Class) (i : Nat) (f : Field) (a : Nat) (cell : Cell), U.vm.findClass C = some c ∧ U.fieldFound? C n d = some (c, k, i, f) ∧ f.isStatic = true ∧ k.statics = some a ∧ H[a]? = some cell ∧ cell.vm.isStatics = true ∧ cell.cls = c ∧ f.slot < cell.slots.size ∧ k.staticTypes[f.slot]? = some f.type ∧ ¬ A a
theorem vx_L.moved {C n d : String} {A : Nat → Prop} {u U : State} {H : Heap} (hvm : u.vm.Alike U.vm) (h : vx_L C n d A u H) : vx_L C n d A U H := by
  obtain ⟨c, k, i, f, a, cell, h1, h2, h3, h4, h5, h6, h7, h8, h9, h10⟩ := h
  obtain ⟨k', hi', he⟩ := State.fieldFound?_setVm hvm h2
  exact ⟨c, k', i, f, a, cell, by rw [hvm.findClass]; exact h1, hi', h3, by rw [he]; exact h4, h5, h6, h7, h8, by rw [he]; exact h9, h10⟩
theorem vx_L.kept {C n d : String} {A : Nat → Prop} {U : State} {H H1 : Heap} (h : vx_L C n d A U H) (hq : ∀ a : Nat, a < H.size → ¬ A a → H1[a]? = H[a]?) : vx_L C n d A U H1 := by
  obtain ⟨c, k, i, f, a, cell, h1, h2, h3, h4, h5, h6, h7, h8, h9, h10⟩ := h
  exact ⟨c, k, i, f, a, cell, h1, h2, h3, h4, by rw [hq a (Array.getElem?_eq_some_iff.mp h5).1 h10]; exact h5, h6, h7, h8, h9, h10⟩
theorem vx_L.narrow {C n d : String} {A B : Nat → Prop} {U : State} {H : Heap} (h : vx_L C n d A U H) (hAB : ∀ q, B q → A q) : vx_L C n d B U H := by
  obtain ⟨c, k, i, f, a, cell, h1, h2, h3, h4, h5, h6, h7, h8, h9, h10⟩ := h
  exact ⟨c, k, i, f, a, cell, h1, h2, h3, h4, h5, h6, h7, h8, h9, fun z => h10 (hAB _ z)⟩
theorem vx_L.word {C n d : String} {A : Nat → Prop} {s : State} {args : Array Value} (h : vx_L C n d A s s.heap) : (Cond.laysStatic C n d).before args s = true := by
  obtain ⟨c, k, i, f, a, cell, h1, h2, h3, h4, h5, h6, h7, h8, h9, -⟩ := h
  show (Cond.laysStatic C n d).holds args s none s [] = true
  exact Cond.laysStatic_of h1 h2 h3 h4 h5 h6 h7 h8 h9
/-- .. and what it holds: null or some reference -/
def vx_Zq (C n d : String) (A : Nat → Prop) (U : State) (H : Heap) : Prop := va_Zq C n d A U H ∧ vx_L C n d A U H
theorem vx_Zq.moved {C n d : String} {A : Nat → Prop} {u U : State} {H : Heap} (hvm : u.vm.Alike U.vm) (h : vx_Zq C n d A u H) : vx_Zq C n d A U H := ⟨va_Zq.moved hvm h.1, vx_L.moved hvm h.2⟩
theorem vx_Zq.kept {C n d : String} {A : Nat → Prop} {U : State} {H H1 : Heap} (h : vx_Zq C n d A U H) (hq : ∀ a : Nat, a < H.size → ¬ A a → H1[a]? = H[a]?) : vx_Zq C n d A U H1 := ⟨va_Zq.kept h.1 hq, vx_L.kept h.2 hq⟩
theorem vx_Zq.narrow {C n d : String} {A B : Nat → Prop} {U : State} {H : Heap} (h : vx_Zq C n d A U H) (hAB : ∀ q, B q → A q) : vx_Zq C n d B U H := ⟨va_Zq.narrow h.1 hAB, vx_L.narrow h.2 hAB⟩
theorem vx_Zqof {args : Array Value} {s : State} {C n d : String} {A : Nat → Prop} (hl : (Cond.laysStatic C n d).before args s = true) (hini : (Cond.initialized C).before args s = true) (h : (Cond.isRef (.static C n d)).before args s = true) (hA : ∀ a : Nat, a < s.heap.size → ¬ A a) : vx_Zq C n d A s s.heap := by
  refine ⟨va_Zqof hl hini h hA, ?_⟩
  obtain ⟨c, k, i, f, a, cell, h1, h2, h3, h4, h5, h6, h7, h8, h9⟩ := Cond.laysStatic_spec hl
  exact ⟨c, k, i, f, a, cell, h1, h2, h3, h4, h5, h6, h7, h8, h9, hA a (Array.getElem?_eq_some_iff.mp h5).1⟩
theorem vx_isRef {C n d : String} {v : Value} {A : Nat → Prop} {s : State} {args : Array Value} (h : va_Z C n d v A s s.heap) (hv : v.isRef = true) : (Cond.isRef (.static C n d)).before args s = true := by
  obtain ⟨cf, kf, fi, f, a, cell, h1, h2, h3, h4, h5, h6, h7, -⟩ := h
  have he : (Term.static C n d).eval args s none [] s = some v := by
    simp [Term.eval, State.fieldNamed?, h1, h2, h4, h5, h6, h7]
  simp only [Cond.before, Cond.holds, Cond.value, he]
  cases v <;> simp_all [Value.isRef]
theorem vx_isRefq {C n d : String} {A : Nat → Prop} {s : State} {args : Array Value} (h : va_Zq C n d A s s.heap) : (Cond.isRef (.static C n d)).before args s = true := by
  rcases h with h | ⟨t, h⟩
  · exact vx_isRef h rfl
  · exact vx_isRef h rfl
/-- the same frame, seen from here: as if the method were called anew in this heap -/
theorem vx_rebase {T : State} (X : Stand p l e R s m args below meth c T locs cells slots) {R' : Room} (hf : R'.frames ≤ R.frames) (hl : R'.locals ≤ R.locals) (hc : cells + R'.cells ≤ R.cells) (hs : slots + R'.slots ≤ R.slots) :
    Stand p l e R' ((T.setVm s.vm).setFrames (.invoking m args :: below)) m args below meth c T [] 0 0 := by
  have htop : (T.setVm s.vm).topJava?.isSome := X.here.top
  have hF : ((T.setVm s.vm).setFrames (.invoking m args :: below)).frames = .invoking m args :: below := State.frames_setFrames _ (State.cur_lt_of_top htop)
  obtain ⟨g₀, hg0⟩ := Option.isSome_iff_exists.mp htop
  obtain ⟨r, hr⟩ := State.topJava?_eq_some.mp hg0
  have hl9 : e.platform.stackLimits (T.setVm s.vm).me = e.platform.stackLimits s.me := X.limits
  have hb9 : (T.setVm s.vm).me.stackBytes = s.me.stackBytes := X.bytes
  refine ⟨X.admits, X.cas, X.clock, hF, ?_, X.hears, X.method, X.code, X.here, X.tail, X.warmed, ?_, ?_, ?_⟩
  · have h := X.room
    have hU : ((T.setVm s.vm).setFrames (.invoking m args :: below)).localsInUse = s.localsInUse := by
      rw [State.localsInUse_invoking hF (meth := meth) (c := c) X.method X.code, State.localsInUse_invoking X.frames X.method X.code]
    simp only [State.hasRoom, Bool.and_eq_true, decide_eq_true_eq] at h ⊢
    obtain ⟨⟨⟨⟨h1, h2, h3, h4, h5, h6⟩, h7⟩, h8⟩, h9⟩ := h
    rw [X.frames, List.length_cons] at h2 h3
    have q1 := X.heapSize
    have q2 := X.used
    simp only [hF, hU, List.length_cons, State.stackLimits_setFrames, State.stackBytes_setFrames, hl9, hb9]
    refine ⟨⟨⟨⟨by omega, by omega, by omega, by omega, by omega, h6⟩, ?_⟩, ?_⟩, X.book⟩
    · show T.heap.size + R'.cells ≤ e.platform.maxCells
      omega
    · show T.slotsUsed + R'.slots ≤ e.platform.maxSlots
      omega
  · rw [State.stackLimits_setFrames]; rfl
  · rw [State.stackBytes_setFrames]; rfl
  · refine ⟨?_, Nat.le_refl _, Nat.le_refl _, ?_, ?_, fun a c9 h9 => ⟨c9, h9, rfl, rfl, fun _ _ => rfl⟩⟩
    · obtain ⟨t, ht, -⟩ := State.frames_cons hr
      show T.setVm s.vm = { ((T.setVm s.vm).setFrames (.invoking m args :: below)).setFrames (T.setVm s.vm).frames with heap := T.heap, slotsUsed := T.slotsUsed }
      rw [State.setFrames_setFrames, State.setFrames_self ht]
      rfl
    · show T.slotsUsed = T.slotsUsed + ((T.heap.toList.drop T.heap.size).map (·.slots.size)).sum
      rw [List.drop_eq_nil_of_le (Nat.le_of_eq Array.length_toList)]
      rfl
    · show ((T.heap.toList.drop T.heap.size).map (·.slots.size)).sum ≤ 0
      rw [List.drop_eq_nil_of_le (Nat.le_of_eq Array.length_toList)]
      exact Nat.le_refl _
/-- 'throw new E()': new; dup; invokespecial; athrow -/
theorem vx_throw0 {cc : ByteArray} {pc : Nat} (hexec : p.tables.exec = Jvm.exec) (hb : c.code = cc) (hl : l.stackTraces = false) {own cls : String} {names : List String} {ik ic mc ms : Nat} {A : Nat → Prop}
    (hown : s.vm.findClass own = some m.cls) (hcls : Bundle.fit cls = true) (hnames : ∀ n ∈ names, Bundle.fit n = true)
    (hk : (Cond.classLink own ik cls).before args s = true) (hini : (Cond.initialized cls).before args s = true) (hat : ∀ w ∈ vx_at0 own ic cls names, w.before args s = true)
    (hgood : ∀ w ∈ Cond.classLink own ik cls :: Cond.initialized cls :: vx_at0 own ic cls names, vx_ot w = true)
    (hU : vx_Zq Bundle.tN "UNASSIGNED_STACK" Bundle.steD A s s.heap) (hN : vx_Zq Bundle.tN "SUPPRESSED_SENTINEL" Bundle.listD A s s.heap) (hS : va_S A s.heap H locs) (hsize : ls.size = c.maxLocals)
    (d0 : decode cc pc = .ok (.new ik, 3)) (d3 : decode cc (pc + 3) = .ok (.dup, 1)) (d4 : decode cc (pc + 4) = .ok (.invokespecial ic, 3)) (d7 : decode cc (pc + 7) = .ok (.athrow, 1))
    (hout : ∀ x ∈ c.exceptionTable.toList, covers x (pc + 7) = false)
    (hRframes : names.length + 3 < R.frames) (hRlocals : (rest.map fun v => v.category).sum + (13 * (names.length + 1) + 42) ≤ R.locals) (hRcells : cells + 1 ≤ R.cells) (hRslots : slots + 6 ≤ R.slots) (hlocks : meth.locks = false)
    (hx : ∀ t : State, s.vm.Alike t.vm → H.size ≤ t.heap.size → (∀ q : Nat, q < H.size → t.heap[q]? = H[q]?) → XC cls s t)
    (hf : ∀ z ∈ locs, free z.base) (hc : cells + 1 ≤ mc) (hs : slots + 6 ≤ ms) :
    W p l e R s m args below meth c H locs cells slots (vx_MQ below Qc XC args s mc ms free) (F0 m pc ls rest) := by
  intro T hT X
  have htr : e.platform.stackTraces = false := (show e.platform.stackTraces = l.stackTraces by rw [X.admits.platform]).trans hl
  have Y := vx_rebase X (R' := { frames := R.frames, locals := R.locals, cells := 1, slots := 6 }) (Nat.le_refl _) (Nat.le_refl _) hRcells hRslots
  obtain ⟨s', hA⟩ : ∃ z, z = (T.setVm s.vm).setFrames (.invoking m args :: below) := ⟨_, rfl⟩
  rw [← hA] at Y
  have hvm : s'.vm = s.vm := by rw [hA]; rfl
  have hhp : s'.heap = H := by rw [hA]; exact hT
  have hW0 : s.WarmedH s'.vm := by rw [hvm]; exact State.WarmedH.refl s
  have hat' : ∀ w ∈ vx_at0 own ic cls names, w.before args s' = true := fun w hw => vx_ot_at hW0 hvm.symm (hgood w (List.mem_cons_of_mem _ (List.mem_cons_of_mem _ hw))) (hat w hw)
  have hk' : (Cond.classLink own ik cls).before args s' = true := vx_ot_at hW0 hvm.symm (hgood _ List.mem_cons_self) hk
  have hini' : (Cond.initialized cls).before args s' = true := vx_ot_at hW0 hvm.symm (hgood _ (List.mem_cons_of_mem _ List.mem_cons_self)) hini
  have hU' : vx_Zq Bundle.tN "UNASSIGNED_STACK" Bundle.steD A s' s'.heap := by rw [hhp]; exact vx_Zq.moved hW0.alike (hU.kept hS.2.1)
  have hN' : vx_Zq Bundle.tN "SUPPRESSED_SENTINEL" Bundle.listD A s' s'.heap := by rw [hhp]; exact vx_Zq.moved hW0.alike (hN.kept hS.2.1)
  have h : ∀ w ∈ Bundle.ownAtoms0 own ic cls names, w.before args s' = true := vx_own hat' (vx_isRefq hU'.1) (vx_isRefq hN'.1) hU'.2.word hN'.2.word
  have hown' : s'.vm.findClass own = some m.cls := by rw [hvm]; exact hown
  have hins : (Cond.instantiable cls 6).before args s' = true := h _ (by simp [Bundle.ownAtoms0])
  obtain ⟨vm₁, cX, kX, hfX, hkX, -, -, X₁, st1⟩ := Y.newCold hexec (own := own) (C := cls) (index := ik) (n := 6) hown' hk' hins hini'
    (g := F0 m pc ls rest) rfl (by rw [hb]; exact d0) (Nat.le_refl _) (Nat.le_refl _)
  generalize hT1 : (T.setVm vm₁).pushCell { cls := cX, slots := kX.instanceTypes.map defaultValue, vm := .none } = T1 at X₁ st1
  have hcat : (Value.ref T.heap.size).category = 1 := rfl
  have hcellA : T1.heap[T.heap.size]? = some (freshCell cX kX) := by rw [← hT1]; exact State.heap_pushCell_size _ _
  have d3' : decode c.code (pc + 3) = .ok (.dup, 1) := by rw [hb]; exact d3
  obtain ⟨U, hsteps, hrun, hend, hW, hsame, ce, hce, hO⟩ := X₁.ctorThrow0 hexec htr (own := own) (cls := cls) (names := names) (ic := ic) hown' hcls hnames h (fun x hx => nomatch hx) hfX hkX hcellA (by rw [hhp, hT]; exact Nat.le_refl _)
    (g := { method := m, pc := pc + 4, locals := ls, stack := .ref T.heap.size :: .ref T.heap.size :: rest, locked := none }) rfl hsize rfl rfl (rest := rest) rfl
    (by rw [hb]; exact d4) (by rw [hb]; exact d7) hout hRframes (by simp only [List.map_cons, List.sum_cons, hcat]; omega) hlocks
  obtain ⟨f1, f2⟩ := vx_frame hsame
  rw [hhp] at f1 f2
  have hWs : s.WarmedH U.vm := State.WarmedH.trans hW0 hW
  have hcl : s.vm.findClass cls = some ce.cls := by
    have h9 := hO.cls
    rw [hvm] at h9
    exact h9
  have hall : s.sameButNew ({ U with vm := s.vm } : State) locs mc ms := by
    subst hA
    obtain ⟨e1, e2⟩ := hsame
    rw [State.setFrames_setFrames] at e1
    have h2 : (T.setVm s.vm).sameButNew ({ U with vm := s.vm } : State) [] (0 + 1) (0 + 6) := ⟨e1, e2⟩
    have h3 := X.same.trans h2
    rw [List.append_nil] at h3
    exact h3.mono hc hs
  refine ⟨U, ?_, .threw T.heap.size, hrun, hend, Or.inr ⟨T.heap.size, rfl, cls, ce, locs, hx U hWs.alike f1 (fun q hq => f2 q hq (fun z hz => nomatch hz)), hce, hO.vm, hcl, hWs, hall, hf⟩⟩
  refine st1 _ ?_
  show Steps p.tables e below (T1.setTop { method := m, pc := pc + 3, locals := ls, stack := .ref T.heap.size :: rest, locked := none }) _
  jvm_step X₁.here [X₁.here.top, hexec, d3', Value.category]
  exact hsteps
/-- 'throw new E("text")': new; dup; ldc; invokespecial; athrow -/
theorem vx_throwS {cc : ByteArray} {pc : Nat} (hexec : p.tables.exec = Jvm.exec) (hb : c.code = cc) (hl : l.stackTraces = false) {own cls text : String} {names : List String} {ik is ic mc ms sa : Nat} {A : Nat → Prop}
    (hown : s.vm.findClass own = some m.cls) (hcls : Bundle.fit cls = true) (hnames : ∀ n ∈ names, Bundle.fit n = true)
    (hk : (Cond.classLink own ik cls).before args s = true) (hini : (Cond.initialized cls).before args s = true) (hstr : vk_R own is text sa s) (hat : ∀ w ∈ vx_atS own ic cls names, w.before args s = true)
    (hgood : ∀ w ∈ Cond.classLink own ik cls :: Cond.initialized cls :: vx_atS own ic cls names, vx_ot w = true)
    (hU : vx_Zq Bundle.tN "UNASSIGNED_STACK" Bundle.steD A s s.heap) (hN : vx_Zq Bundle.tN "SUPPRESSED_SENTINEL" Bundle.listD A s s.heap) (hS : va_S A s.heap H locs) (hsize : ls.size = c.maxLocals)
    (d0 : decode cc pc = .ok (.new ik, 3)) (d3 : decode cc (pc + 3) = .ok (.dup, 1)) (d4 : decode cc (pc + 4) = .ok (.ldc is, 2)) (d6 : decode cc (pc + 6) = .ok (.invokespecial ic, 3)) (d9 : decode cc (pc + 9) = .ok (.athrow, 1))
    (hout : ∀ x ∈ c.exceptionTable.toList, covers x (pc + 9) = false)
    (hRframes : names.length + 3 < R.frames) (hRlocals : (rest.map fun v => v.category).sum + (13 * (names.length + 1) + 43) ≤ R.locals) (hRcells : cells + 1 ≤ R.cells) (hRslots : slots + 6 ≤ R.slots) (hlocks : meth.locks = false)
    (hx : ∀ t : State, s.vm.Alike t.vm → H.size ≤ t.heap.size → (∀ q : Nat, q < H.size → t.heap[q]? = H[q]?) → XC cls s t)
    (hf : ∀ z ∈ locs, free z.base) (hc : cells + 1 ≤ mc) (hs : slots + 6 ≤ ms) :
    W p l e R s m args below meth c H locs cells slots (vx_MQ below Qc XC args s mc ms free) (F0 m pc ls rest) := by
  intro T hT X
  have htr : e.platform.stackTraces = false := (show e.platform.stackTraces = l.stackTraces by rw [X.admits.platform]).trans hl
  have Y := vx_rebase X (R' := { frames := R.frames, locals := R.locals, cells := 1, slots := 6 }) (Nat.le_refl _) (Nat.le_refl _) hRcells hRslots
  obtain ⟨s', hA⟩ : ∃ z, z = (T.setVm s.vm).setFrames (.invoking m args :: below) := ⟨_, rfl⟩
  rw [← hA] at Y
  have hvm : s'.vm = s.vm := by rw [hA]; rfl
  have hhp : s'.heap = H := by rw [hA]; exact hT
  have hW0 : s.WarmedH s'.vm := by rw [hvm]; exact State.WarmedH.refl s
  have hat' : ∀ w ∈ vx_atS own ic cls names, w.before args s' = true := fun w hw => vx_ot_at hW0 hvm.symm (hgood w (List.mem_cons_of_mem _ (List.mem_cons_of_mem _ hw))) (hat w hw)
  have hk' : (Cond.classLink own ik cls).before args s' = true := vx_ot_at hW0 hvm.symm (hgood _ List.mem_cons_self) hk
  have hini' : (Cond.initialized cls).before args s' = true := vx_ot_at hW0 hvm.symm (hgood _ (List.mem_cons_of_mem _ List.mem_cons_self)) hini
  have hU' : vx_Zq Bundle.tN "UNASSIGNED_STACK" Bundle.steD A s' s'.heap := by rw [hhp]; exact vx_Zq.moved hW0.alike (hU.kept hS.2.1)
  have hN' : vx_Zq Bundle.tN "SUPPRESSED_SENTINEL" Bundle.listD A s' s'.heap := by rw [hhp]; exact vx_Zq.moved hW0.alike (hN.kept hS.2.1)
  have h : ∀ w ∈ Bundle.ownAtoms own ic cls names, w.before args s' = true := vx_own hat' (vx_isRefq hU'.1) (vx_isRefq hN'.1) hU'.2.word hN'.2.word
  have hown' : s'.vm.findClass own = some m.cls := by rw [hvm]; exact hown
  have hins : (Cond.instantiable cls 6).before args s' = true := h _ (by simp [Bundle.ownAtoms])
  obtain ⟨vm₁, cX, kX, hfX, hkX, -, -, X₁, st1⟩ := Y.newCold hexec (own := own) (C := cls) (index := ik) (n := 6) hown' hk' hins hini'
    (g := F0 m pc ls rest) rfl (by rw [hb]; exact d0) (Nat.le_refl _) (Nat.le_refl _)
  generalize hT1 : (T.setVm vm₁).pushCell { cls := cX, slots := kX.instanceTypes.map defaultValue, vm := .none } = T1 at X₁ st1
  have hcat : (Value.ref T.heap.size).category = 1 := rfl
  have hcellA : T1.heap[T.heap.size]? = some (freshCell cX kX) := by rw [← hT1]; exact State.heap_pushCell_size _ _
  have d3' : decode c.code (pc + 3) = .ok (.dup, 1) := by rw [hb]; exact d3
  have d4' : decode c.code (pc + 4) = .ok (.ldc is, 2) := by rw [hb]; exact d4
  have hstr' : vk_R own is text sa s' := vk_R.warm hW0 hstr
  obtain ⟨U, hsteps, hrun, hend, hW, hsame, ce, hce, hO⟩ := X₁.ctorThrowS hexec htr (own := own) (cls := cls) (names := names) (ic := ic) hown' hcls hnames h (fun x hx => nomatch hx) hfX hkX hcellA (by rw [hhp, hT]; exact Nat.le_refl _) (msg := .ref sa) rfl
    (g := { method := m, pc := pc + 6, locals := ls, stack := .ref sa :: .ref T.heap.size :: .ref T.heap.size :: rest, locked := none }) rfl hsize rfl rfl (rest := rest) rfl
    (by rw [hb]; exact d6) (by rw [hb]; exact d9) hout hRframes (by simp only [List.map_cons, List.sum_cons, hcat]; omega) hlocks
  obtain ⟨f1, f2⟩ := vx_frame hsame
  rw [hhp] at f1 f2
  have hWs : s.WarmedH U.vm := State.WarmedH.trans hW0 hW
  have hcl : s.vm.findClass cls = some ce.cls := by
    have h9 := hO.cls
    rw [hvm] at h9
    exact h9
  have hall : s.sameButNew ({ U with vm := s.vm } : State) locs mc ms := by
    subst hA
    obtain ⟨e1, e2⟩ := hsame
    rw [State.setFrames_setFrames] at e1
    have h2 : (T.setVm s.vm).sameButNew ({ U with vm := s.vm } : State) [] (0 + 1) (0 + 6) := ⟨e1, e2⟩
    have h3 := X.same.trans h2
    rw [List.append_nil] at h3
    exact h3.mono hc hs
  refine ⟨U, ?_, .threw T.heap.size, hrun, hend, Or.inr ⟨T.heap.size, rfl, cls, ce, locs, hx U hWs.alike f1 (fun q hq => f2 q hq (fun z hz => nomatch hz)), hce, hO.vm, hcl, hWs, hall, hf⟩⟩
  refine st1 _ ?_
  show Steps p.tables e below (T1.setTop { method := m, pc := pc + 3, locals := ls, stack := .ref T.heap.size :: rest, locked := none }) _
  jvm_step X₁.here [X₁.here.top, hexec, d3', Value.category]
  exact X₁.ldcString hexec (own := own) (text := text) (index := is) (a := sa) hown' hstr'.1 hstr'.2
    (g := { method := m, pc := pc + 4, locals := ls, stack := .ref T.heap.size :: .ref T.heap.size :: rest, locked := none }) rfl d4' _ hsteps
/-- 'throw new E("text")', the text by a wide index -/
theorem vx_throwSW {cc : ByteArray} {pc : Nat} (hexec : p.tables.exec = Jvm.exec) (hb : c.code = cc) (hl : l.stackTraces = false) {own cls text : String} {names : List String} {ik is ic mc ms sa : Nat} {A : Nat → Prop}
    (hown : s.vm.findClass own = some m.cls) (hcls : Bundle.fit cls = true) (hnames : ∀ n ∈ names, Bundle.fit n = true)
    (hk : (Cond.classLink own ik cls).before args s = true) (hini : (Cond.initialized cls).before args s = true) (hstr : vk_R own is text sa s) (hat : ∀ w ∈ vx_atS own ic cls names, w.before args s = true)
    (hgood : ∀ w ∈ Cond.classLink own ik cls :: Cond.initialized cls :: vx_atS own ic cls names, vx_ot w = true)
    (hU : vx_Zq Bundle.tN "UNASSIGNED_STACK" Bundle.steD A s s.heap) (hN : vx_Zq Bundle.tN "SUPPRESSED_SENTINEL" Bundle.listD A s s.heap) (hS : va_S A s.heap H locs) (hsize : ls.size = c.maxLocals)
    (d0 : decode cc pc = .ok (.new ik, 3)) (d3 : decode cc (pc + 3) = .ok (.dup, 1)) (d4 : decode cc (pc + 4) = .ok (.ldc_w is, 3)) (d7 : decode cc (pc + 7) = .ok (.invokespecial ic, 3)) (d10 : decode cc (pc + 10) = .ok (.athrow, 1))
    (hout : ∀ x ∈ c.exceptionTable.toList, covers x (pc + 10) = false)
    (hRframes : names.length + 3 < R.frames) (hRlocals : (rest.map fun v => v.category).sum + (13 * (names.length + 1) + 43) ≤ R.locals) (hRcells : cells + 1 ≤ R.cells) (hRslots : slots + 6 ≤ R.slots) (hlocks : meth.locks = false)
    (hx : ∀ t : State, s.vm.Alike t.vm → H.size ≤ t.heap.size → (∀ q : Nat, q < H.size → t.heap[q]? = H[q]?) → XC cls s t)
    (hf : ∀ z ∈ locs, free z.base) (hc : cells + 1 ≤ mc) (hs : slots + 6 ≤ ms) :
    W p l e R s m args below meth c H locs cells slots (vx_MQ below Qc XC args s mc ms free) (F0 m pc ls rest) := by
  intro T hT X
  have htr : e.platform.stackTraces = false := (show e.platform.stackTraces = l.stackTraces by rw [X.admits.platform]).trans hl
  have Y := vx_rebase X (R' := { frames := R.frames, locals := R.locals, cells := 1, slots := 6 }) (Nat.le_refl _) (Nat.le_refl _) hRcells hRslots
  obtain ⟨s', hA⟩ : ∃ z, z = (T.setVm s.vm).setFrames (.invoking m args :: below) := ⟨_, rfl⟩
  rw [← hA] at Y
  have hvm : s'.vm = s.vm := by rw [hA]; rfl
  have hhp : s'.heap = H := by rw [hA]; exact hT
  have hW0 : s.WarmedH s'.vm := by rw [hvm]; exact State.WarmedH.refl s
  have hat' : ∀ w ∈ vx_atS own ic cls names, w.before args s' = true := fun w hw => vx_ot_at hW0 hvm.symm (hgood w (List.mem_cons_of_mem _ (List.mem_cons_of_mem _ hw))) (hat w hw)
  have hk' : (Cond.classLink own ik cls).before args s' = true := vx_ot_at hW0 hvm.symm (hgood _ List.mem_cons_self) hk
  have hini' : (Cond.initialized cls).before args s' = true := vx_ot_at hW0 hvm.symm (hgood _ (List.mem_cons_of_mem _ List.mem_cons_self)) hini
  have hU' : vx_Zq Bundle.tN "UNASSIGNED_STACK" Bundle.steD A s' s'.heap := by rw [hhp]; exact vx_Zq.moved hW0.alike (hU.kept hS.2.1)
  have hN' : vx_Zq Bundle.tN "SUPPRESSED_SENTINEL" Bundle.listD A s' s'.heap := by rw [hhp]; exact vx_Zq.moved hW0.alike (hN.kept hS.2.1)
  have h : ∀ w ∈ Bundle.ownAtoms own ic cls names, w.before args s' = true := vx_own hat' (vx_isRefq hU'.1) (vx_isRefq hN'.1) hU'.2.word hN'.2.word
  have hown' : s'.vm.findClass own = some m.cls := by rw [hvm]; exact hown
  have hins : (Cond.instantiable cls 6).before args s' = true := h _ (by simp [Bundle.ownAtoms])
  obtain ⟨vm₁, cX, kX, hfX, hkX, -, -, X₁, st1⟩ := Y.newCold hexec (own := own) (C := cls) (index := ik) (n := 6) hown' hk' hins hini'
    (g := F0 m pc ls rest) rfl (by rw [hb]; exact d0) (Nat.le_refl _) (Nat.le_refl _)
  generalize hT1 : (T.setVm vm₁).pushCell { cls := cX, slots := kX.instanceTypes.map defaultValue, vm := .none } = T1 at X₁ st1
  have hcat : (Value.ref T.heap.size).category = 1 := rfl
  have hcellA : T1.heap[T.heap.size]? = some (freshCell cX kX) := by rw [← hT1]; exact State.heap_pushCell_size _ _
  have d3' : decode c.code (pc + 3) = .ok (.dup, 1) := by rw [hb]; exact d3
  have d4' : decode c.code (pc + 4) = .ok (.ldc_w is, 3) := by rw [hb]; exact d4
  have hstr' : vk_R own is text sa s' := vk_R.warm hW0 hstr
  obtain ⟨U, hsteps, hrun, hend, hW, hsame, ce, hce, hO⟩ := X₁.ctorThrowS hexec htr (own := own) (cls := cls) (names := names) (ic := ic) hown' hcls hnames h (fun x hx => nomatch hx) hfX hkX hcellA (by rw [hhp, hT]; exact Nat.le_refl _) (msg := .ref sa) rfl
    (g := { method := m, pc := pc + 7, locals := ls, stack := .ref sa :: .ref T.heap.size :: .ref T.heap.size :: rest, locked := none }) rfl hsize rfl rfl (rest := rest) rfl
    (by rw [hb]; exact d7) (by rw [hb]; exact d10) hout hRframes (by simp only [List.map_cons, List.sum_cons, hcat]; omega) hlocks
  obtain ⟨f1, f2⟩ := vx_frame hsame
  rw [hhp] at f1 f2
  have hWs : s.WarmedH U.vm := State.WarmedH.trans hW0 hW
  have hcl : s.vm.findClass cls = some ce.cls := by
    have h9 := hO.cls
    rw [hvm] at h9
    exact h9
  have hall : s.sameButNew ({ U with vm := s.vm } : State) locs mc ms := by
    subst hA
    obtain ⟨e1, e2⟩ := hsame
    rw [State.setFrames_setFrames] at e1
    have h2 : (T.setVm s.vm).sameButNew ({ U with vm := s.vm } : State) [] (0 + 1) (0 + 6) := ⟨e1, e2⟩
    have h3 := X.same.trans h2
    rw [List.append_nil] at h3
    exact h3.mono hc hs
  refine ⟨U, ?_, .threw T.heap.size, hrun, hend, Or.inr ⟨T.heap.size, rfl, cls, ce, locs, hx U hWs.alike f1 (fun q hq => f2 q hq (fun z hz => nomatch hz)), hce, hO.vm, hcl, hWs, hall, hf⟩⟩
  refine st1 _ ?_
  show Steps p.tables e below (T1.setTop { method := m, pc := pc + 3, locals := ls, stack := .ref T.heap.size :: rest, locked := none }) _
  jvm_step X₁.here [X₁.here.top, hexec, d3', Value.category]
  exact X₁.ldcStringW hexec (own := own) (text := text) (index := is) (a := sa) hown' hstr'.1 hstr'.2
    (g := { method := m, pc := pc + 4, locals := ls, stack := .ref T.heap.size :: .ref T.heap.size :: rest, locked := none }) rfl d4' _ hsteps
end Ends
section Bodies
variable {l : Launch}
theorem vx_ofW {y : MethodName} {ws ws' : List Cond} {rm : Room} {Pc : Array Value → State → Prop} {Qc : Array Value → State → Outcome → State → Prop} {XC : String → State → State → Prop} {mc ms : Nat} {free : Addr → Prop} {cc : ByteArray} {maxL : Nat} {ret : Option FieldType}
    (hy : plainName y.cls = true) (hw : ws = Cond.code y cc maxL ret :: ws')
    (body : ∀ p e s m args below meth c s₁, BodyLoose p l y (headSpec ws rm) cc maxL ret e s m args below meth c s₁ → c.maxLocals = maxL → (∀ x ∈ c.exceptionTable.toList, False) → Pc args s →
      W p l e (headSpec ws rm).room s m args below meth c s.heap [] 0 0 (vx_MQ below Qc XC args s mc ms free) (entryFrame m args maxL)) : vx_Met l y ws rm Pc Qc XC mc ms free := by
  refine MetFree.of_bodyS (code := cc) (maxLocals := maxL) (ret := ret) hy ?_ ?_
  · intro args s m h hn
    obtain ⟨meth, c, h1, h2, h3, h4, h5, h6, -, -⟩ := Cond.code_spec hn (atoms_spec (ws := ws) h _ (by rw [hw]; exact List.mem_cons_self))
    exact ⟨meth, c, h1, h2, h3, h4, h5, h6⟩
  · intro p e s m args below meth c s₁ B hml hP _
    have hh0 : s₁.heap = s.heap := by rw [B.state]; rfl
    have ht : ∀ x ∈ c.exceptionTable.toList, False := by
      obtain ⟨meth9, c9, h1, h2, -, -, -, -, h7, -⟩ := Cond.code_spec B.named (atoms_spec (ws := ws) B.pre _ (by rw [hw]; exact List.mem_cons_self))
      cases Option.some.inj (h1.symm.trans B.method)
      cases Option.some.inj (h2.symm.trans (Stand.of_body B).code)
      intro x hx
      rw [Array.isEmpty_iff.mp h7] at hx
      cases hx
    obtain ⟨t, a1, o, b1, b2, b3⟩ := body p e s m args below meth c s₁ B hml ht hP s₁ hh0 (Stand.of_body B)
    exact ⟨t, o, a1, b1, b2, b3⟩
/-- the table of a body with handlers -/
theorem vx_table {p : Program} {x y : MethodName} {S : Spec} {cc bytes : ByteArray} {maxL maxL' : Nat} {ret ret' : Option FieldType} {e : Env} {s s₁ : State} {m : MethodId} {args : Array Value} {below : List Frame} {meth : Method} {c : Code} {hh : List (Nat × Nat × Nat × Nat)}
    (B : BodyLoose p l y S cc maxL ret e s m args below meth c s₁) (h : (Cond.codeWith y bytes maxL' ret' hh).before args s = true) : c.exceptionTable.toList = tableOf hh := by
  obtain ⟨m9, meth9, c9, hn9, h1, h2, -, -, h6, -⟩ := Cond.codeWith_spec h
  cases Option.some.inj (hn9.symm.trans B.named)
  cases Option.some.inj (h1.symm.trans B.method)
  cases Option.some.inj (h2.symm.trans (Stand.of_body B).code)
  rw [← h6, table_eq]
end Bodies
end VXA
/-! ===== END ===== -/
/-! ===== BEGIN a static call of a method with an exception table ===== -/
section VXS
variable {p : Program} {l : Launch} {e : Env} {R : Room} {s : State} {m : MethodId} {args : Array Value} {below : List Frame} {meth : Method} {c : Code} {T : State} {H : Heap} {locs : List Loc} {cells slots : Nat}
abbrev vx_CSW (R : Room) (s : State) (args : Array Value) (own : String) (index : Nat) (y : MethodName) (bytes : ByteArray) (maxL : Nat) (ret : Option FieldType) (hh : List (Nat × Nat × Nat × Nat)) (ws : List Cond) (rm : Room) (mc ms n : Nat) : Prop :=
  (rm.cells = mc ∧ rm.slots = ms ∧ rm.frames + 1 ≤ R.frames ∧ 8 + (maxL + 11) + rm.locals ≤ R.locals ∧ (∀ w ∈ ws, ∀ (a' : Array Value) (U : State), s.WarmedH U.vm → w.before a' U = true) ∧ Cond.codeWith y bytes maxL ret hh ∈ ws) ∧
  (Cond.codeWith y bytes maxL ret hh).before args s = true ∧ (Cond.initialized y.cls).before args s = true ∧ (y.cls ≠ "java/lang/invoke/MethodHandle" ∧ y.cls ≠ "java/lang/invoke/VarHandle") ∧
  (∀ sig, parseMethodDescriptor y.desc = some sig → n = sig.parameters.length) ∧ (Cond.methodLink own index y).before args s = true ∧ (Cond.static y).before args s = true
theorem vx_cwSW {own : String} {index maxL mc ms : Nat} {y : MethodName} {bytes : ByteArray} {ret : Option FieldType} {hh : List (Nat × Nat × Nat × Nat)} {Ts ws ws' : List Cond} {rm : Room} (n : Nat) (ht : ∀ w ∈ Ts, w.before args s = true) (hT : GoodIn Ts (va_wsS own index y ws)) (hw : ws = Cond.codeWith y bytes maxL ret hh :: ws') (hrc : rm.cells = mc) (hrs : rm.slots = ms)
    (hd : y.cls ≠ "java/lang/invoke/MethodHandle" ∧ y.cls ≠ "java/lang/invoke/VarHandle" ∧ (parseMethodDescriptor y.desc).map (fun d => d.parameters.length) = some n) (hR : rm.frames + 1 ≤ R.frames ∧ 8 + (maxL + 11) + rm.locals ≤ R.locals) :
    vx_CSW R s args own index y bytes maxL ret hh ws rm mc ms n := by
  have ok : ∀ w ∈ va_wsS own index y ws, w.before args s = true := fun w h => ht w (hT w h).1
  have hG : GoodIn Ts ws := fun w h => hT w (by unfold va_wsS; exact List.mem_append_right _ h)
  have hc : Cond.codeWith y bytes maxL ret hh ∈ ws := by rw [hw]; exact List.mem_cons_self
  refine ⟨⟨hrc, hrs, hR.1, hR.2, pay_in ht hG, hc⟩, ht _ (hG _ hc).1, ok _ (by simp [va_wsS]), ⟨hd.1, hd.2.1⟩, fun sig h => ?_, ok _ (by simp [va_wsS]), ok _ (by simp [va_wsS])⟩
  have h2 := hd.2.2
  rw [h] at h2
  exact (Option.some.inj h2).symm
theorem vx_callSW (X : Stand p l e R s m args below meth c T locs cells slots) (hexec : p.tables.exec = Jvm.exec) {own : String} {index : Nat} {y : MethodName} {bytes : ByteArray} {maxL : Nat} {ret : Option FieldType} {hh : List (Nat × Nat × Nat × Nat)}
    (hown : s.vm.findClass own = some m.cls) (hlink : (Cond.methodLink own index y).before args s = true) (hstat : (Cond.static y).before args s = true) (hinit : (Cond.initialized y.cls).before args s = true)
    (hcode : (Cond.codeWith y bytes maxL ret hh).before args s = true) (hy : y.cls ≠ "java/lang/invoke/MethodHandle" ∧ y.cls ≠ "java/lang/invoke/VarHandle")
    {W9 : Nat} {Pre : Pt → Array Value → Prop} {Post : Pt → Array Value → Option Value → Pt → Prop} (hK : Back l R p e below s args y 3 W9 Pre Post)
    {g : JFrame} (hg : g.method = m) (hsize : g.locals.size = c.maxLocals) {argsL rest : List Value} (hlen : ∀ sig, parseMethodDescriptor y.desc = some sig → argsL.length = sig.parameters.length)
    (hstack : g.stack = argsL.reverse ++ rest) (hW : 2 * g.monitorRoom + (rest.map fun v => v.category).sum ≤ W9) (hdg : decode c.code g.pc = .ok (.invokestatic index, 3))
    (hpre : ∀ vm₁, s.WarmedH vm₁ → Pre ⟨T.setVm vm₁, locs, cells, slots⟩ argsL.toArray) :
    ∃ (v : Option Value) (vm₁ : Vm) (B : Pt), s.WarmedH vm₁ ∧ Stand p l e R s m args below meth c B.U B.locs B.cells B.slots ∧ Post ⟨T.setVm vm₁, locs, cells, slots⟩ argsL.toArray v B ∧
      ∀ target, Steps p.tables e below (B.U.setTop { g with pc := g.pc + 3, stack := v.toList ++ rest }) target → Steps p.tables e below (T.setTop g) target := by
  obtain ⟨mk, methM, cM, hnamed, hmethM, -, -, -, -, -, -, hsigM⟩ := Cond.codeWith_spec hcode
  have hstatic : methM.isStatic = true := Cond.static_spec hnamed hmethM hstat
  obtain ⟨kP, hkP, -⟩ := className_of_methodNamed hnamed
  have hinitP : kP.init = .initialized := Cond.initialized_spec (findClass_of_methodNamed hnamed) hkP hinit
  obtain ⟨vm₁, X₁, hstep₁⟩ := X.invokestatic hexec hown hlink hnamed hmethM hstatic hkP hinitP hy (g := g) hg (argsL := argsL) (rest := rest) (hlen _ hsigM) hstack hdg
  obtain ⟨v, B, X', hpost, hsteps⟩ := hK m meth c ⟨T.setVm vm₁, locs, cells, slots⟩ { g with stack := rest } (.invokestatic index) mk argsL.toArray X₁ hg hsize hdg hW (X₁.named hnamed) (hpre vm₁ X₁.warmed)
  exact ⟨v, vm₁, B, X₁.warmed, X', hpost, fun target h => hstep₁ _ fun acts => by rw [doInvoke_state]; exact hsteps.trans h⟩
theorem vx_runSW {y : MethodName} {bytes cc : ByteArray} {maxL nL mc ms n index : Nat} {ret : Option FieldType} {hh : List (Nat × Nat × Nat × Nat)} {ws : List Cond} {rm : Room} {Pc : Array Value → State → Prop} {Qc : Array Value → State → Outcome → State → Prop} {free : Addr → Prop} {Ts : List Cond} {own : String} {As rest : List Value} {g : JFrame}
    (S : CallFix p m c cc nL s args Ts own) (hM : Met l y ws rm Pc Qc mc ms free) (cw : vx_CSW R s args own index y bytes maxL ret hh ws rm mc ms n) (hp : PreS s H Pc As)
    (hg : g.method = m) (hn : As.length = n) (hsize : g.locals.size = nL) (hstack : g.stack = As.reverse ++ rest) (hW : 2 * g.monitorRoom + (rest.map fun v => v.category).sum ≤ 8) (hdg : decode cc g.pc = .ok (.invokestatic index, 3)) (hf : cells + mc ≤ R.cells ∧ slots + ms ≤ R.slots) :
    va_Run p l e R s m args below meth c H locs cells slots mc ms g rest (Qc As.toArray) (free) := by
  obtain ⟨⟨hrc, hrs, hfr, hlo, hws, hcw⟩, hcode, hini, hy, hlen, hl, hstt⟩ := cw
  have hK : Back l R p e below s args y 3 8 (PreOf R mc ms Pc) (PostOf Qc mc ms free) := va_backW (hh := hh) (bytes := bytes) (maxL := maxL) (ret := ret) hM hp.1 hrc hrs hfr hlo hws hcw (fun a' U hW => word_at hW (Or.inl (by first | rfl | simp [Cond.onTables, Cond.keeps, Cond.steady])) hini)
  obtain ⟨hx, hb, hml, ho, -⟩ := S
  intro T hT X
  obtain ⟨v, vm₁, ⟨U', l2, c2, s2⟩, hW₁, X', ⟨g', mk, t, L, e1, e2, hq, h1, hL, h2, h3⟩, st⟩ := vx_callSW X hx (hh := hh) (bytes := bytes) (maxL := maxL) (ret := ret) ho hl hstt hini hcode hy hK hg (hsize.trans hml.symm) (argsL := As) (rest := rest) (fun sig h => hn.trans (hlen sig h)) hstack hW (by rw [hb]; exact hdg)
    (fun vm₁ hW₁ => ⟨hf.1, hf.2, hp.2 (T.setVm vm₁) hT hW₁⟩)
  dsimp only [Pt.U, Pt.locs, Pt.cells, Pt.slots] at X' e1 e2 h1 h2 h3 st
  subst h1; subst h2; subst h3
  exact ⟨v, (T.setVm vm₁).calling g' mk As.toArray, t, U', L, hT, X', hL, e1, e2, hq, st⟩
/-- not caught here, past rows that name other classes: it goes on to the caller -/
theorem vx_outP {p : Program} {l : Launch} {e : Env} {R : Room} {s : State} {m : MethodId} {args : Array Value} {below : List Frame} {meth : Method} {c : Code} {H : Heap} {locs : List Loc} {cells slots : Nat} {free : Addr → Prop} {ls : Array Slot} {rest : List Value} {Qc : Array Value → State → Outcome → State → Prop} {XC : String → State → State → Prop}
    {pc : Nat} {own E : String} {ce : Cell} {q : Addr} {mc ms : Nat} (hown : s.vm.findClass own = some m.cls) (hlocks : meth.locks = false)
    (hpass : ∀ z ∈ c.exceptionTable.toList, covers z pc = false ∨ (z.catchType ≠ 0 ∧ ∃ nm : String, (Cond.classLink own z.catchType nm).before args s = true ∧ va_Nc E nm s)) (hcell : H[q]? = some ce) (hv : ce.vm = .none) (hcl : s.vm.findClass E = some ce.cls)
    (hx : ∀ t : State, t.heap = H → s.vm.Alike t.vm → XC E s t) (hf : ∀ z ∈ locs, free z.base) (hc : cells ≤ mc) (hs : slots ≤ ms) :
    vx_W p l e R s m args below meth c H locs cells slots (vx_MQ below Qc XC args s mc ms free) (F0 m pc ls rest) q := by
  intro T hT X
  have hpl : e.platform.magicAccessors = ({} : Platform).magicAccessors := by rw [X.admits.platform]
  obtain ⟨vm', hW', X', st⟩ := X.outThrough hlocks q (g := F0 m pc ls rest) rfl rfl rfl (cell := ce) (by rw [hT]; exact hcell) (by rw [hv]; rfl)
    (by obtain ⟨k9, h9, -⟩ := Vm.findClass_spec hcl; exact ⟨k9, h9⟩) (fun z hz => by
      rcases hpass z hz with h | ⟨hz0, nm, hl1, hn1⟩
      · exact Or.inl h
      · obtain ⟨c6, hc6, hcl6⟩ := Cond.classLink_spec hown hl1 e.platform hpl
        obtain ⟨a8, b8, h1, h2, h3⟩ := hn1
        cases Option.some.inj (h1.symm.trans hcl)
        cases Option.some.inj (h2.symm.trans hc6)
        exact Or.inr ⟨hz0, _, hcl6, h3⟩)
  obtain ⟨g₀, hfr⟩ := X'.frames_eq
  have hcell9 : ((T.setVm vm').setFrames (.throwing q :: below)).heap[q]? = some ce := by
    show T.heap[q]? = some ce
    rw [hT]; exact hcell
  have hend : Ended ((T.setVm vm').setFrames (.throwing q :: below)) below (.threw q) := State.frames_setFrames _ (State.cur_lt_of_frames hfr)
  refine ⟨(T.setVm vm').setFrames (.throwing q :: below), ?_, .threw q, X'.here.running, hend, Or.inr ⟨q, rfl, E, ce, locs, hx _ hT (X'.ends _).1.alike, hcell9, hv, hcl, (X'.ends _).1, (X'.ends _).2.mono hc hs, hf⟩⟩
  rw [X.pushThrowing_eq]
  exact st
/-- a thing of a world lies in the heap -/
theorem vx_lt {D : va_G} {cl : List vw_C} {ws : va_W} {H1 : Heap} (h : va_P D cl ws H1) {k : Nat} {q : Nat × va_E} (hk : ws[k]? = some q) : q.1 < H1.size := (h k q hk).lt
end VXS
/-! ===== END ===== -/
/-! ===== BEGIN methods with a table of their own: called by a name, returning or throwing ===== -/
section VXH
/-! vx_backW, vx_callVX, vx_callSX, vx_callVW, vx_runVW, vx_runVX, vx_runSX, vx_ofWH follow the same proofs as their sisters above (Free/Laws.lean, Shelf42/LK1.lean); vx_outP calls Shelf42/NT130.lean (outThrough). -/
section
variable {l : Launch} {R : Room} {p : Program} {e : Env} {below : List Frame} {s : State} {sargs : Array Value} {y : MethodName} {len W9 : Nat}
theorem vx_backW {ws : List Cond} {rm : Room} {Pc : Array Value → State → Prop} {Qc : Array Value → State → Outcome → State → Prop} {XC : String → State → State → Prop} {mc ms : Nat} {free : Addr → Prop} {bytes : ByteArray} {maxL : Nat} {ret : Option FieldType} {hh : List (Nat × Nat × Nat × Nat)}
    (hM : vx_Met l y ws rm Pc Qc XC mc ms free) (hblind : FrameBlind Pc) (hrc : rm.cells = mc) (hrs : rm.slots = ms)
    (hframes : rm.frames + 1 ≤ R.frames) (hlocals : W9 + (maxL + 11) + rm.locals ≤ R.locals)
    (hws : ∀ w ∈ ws, ∀ a' U, s.WarmedH U.vm → w.before a' U = true) (hcode : Cond.codeWith y bytes maxL ret hh ∈ ws) (hinit : ∀ a' U, s.WarmedH U.vm → (Cond.initialized y.cls).before a' U = true) :
    vx_Back l R p e below s sargs y len W9 (PreOf R mc ms Pc) (PostOf Qc mc ms free) (vx_Post XC mc ms free) := by
  intro m meth c A g ig mk a X hg hsize hdg hW hn hp
  have h1 : (headSpec ws rm).pre.before a A.U = true := atoms_intro fun w hw => hws w hw _ _ X.warmed
  have h2 : (Cond.codeWith y bytes maxL ret hh).before a A.U = true := hws _ hcode _ _ X.warmed
  have h3 : (Cond.initialized y.cls).before a A.U = true := hinit _ _ X.warmed
  have h4 : A.cells + (headSpec ws rm).room.cells ≤ R.cells := by rw [show (headSpec ws rm).room.cells = mc from hrc]; exact hp.1
  have h5 : A.slots + (headSpec ws rm).room.slots ≤ R.slots := by rw [show (headSpec ws rm).room.slots = ms from hrs]; exact hp.2.1
  have hPc : Pc a (A.U.calling g mk a) := hblind _ _ _ _ hp.2.2
  obtain ⟨U, Ls, c0, s0⟩ := A
  dsimp only [Pt.U, Pt.locs, Pt.cells, Pt.slots] at h1 h2 h3 h4 h5 X hn hPc ⊢
  obtain ⟨m9, methY, cY, hn9, hmY, hcY, -, hlY, -⟩ := Cond.codeWith_spec h2
  cases Option.some.inj (hn9.symm.trans hn)
  obtain ⟨kY, hkY, -⟩ := className_of_methodNamed hn
  have hinitY : kY.init = .initialized := Cond.initialized_spec (findClass_of_methodNamed hn) hkY h3
  have h : At U g.method c below := by rw [hg]; exact X.here
  have hlocals9 : W9 + (maxL + 11) + (headSpec ws rm).room.locals ≤ R.locals := hlocals
  have happ : (headSpec ws rm).appliesLoose y e.platform (U.calling g mk a) = true :=
    Spec.appliesLoose_calling (g := g) h hdg hn hkY hinitY
      (X.room_calling (g := g) (R' := (headSpec ws rm).room) hsize hmY hcY hframes (by rw [hlY]; omega) h4 h5) h1
  obtain ⟨mid, hmid⟩ := h.above
  have hfr : (U.setTop g).frames = (.java g :: mid) ++ below := by rw [State.frames_setTop' g h.top, hmid]; rfl
  obtain ⟨o, s₂, hsteps, -, hend, hq⟩ := Steps.callFree hM p X.admits X.cas X.clock (acts := []) hfr happ hPc trivial
  have hq' : vx_Q Qc XC mc ms free a (U.calling g mk a) o s₂ := hq
  rw [State.frames_setTop' g h.top] at hend
  obtain ⟨g₀, hg0⟩ := Option.isSome_iff_exists.mp h.top
  obtain ⟨r, hr⟩ := State.topJava?_eq_some.mp hg0
  have hr' : (({ U with heap := s₂.heap, slotsUsed := s₂.slotsUsed } : State).setVm s₂.vm).frames = .java g₀ :: r := hr
  rcases hq' with ⟨hqc, L, hfe, hL⟩ | ⟨q, rfl, E, ce, L, hx, hce, hcv, hcl, hW₂, hsm, hL⟩
  · obtain ⟨⟨v, rfl⟩, hW₂, e2, q2, q3, q4, q5, q6⟩ := id hfe
    have e3 : s₂ = ({ (U.calling g mk a).setFrames s₂.frames with heap := s₂.heap, slotsUsed := s₂.slotsUsed } : State).setVm s₂.vm := by
      have : s₂ = ({ s₂ with vm := (U.calling g mk a).vm } : State).setVm s₂.vm := rfl
      rw [e2] at this
      exact this
    obtain ⟨c₂, i₂, len₂, hc₂, hd₂, hf₂⟩ := hend
    have hW' : U.WarmedH s₂.vm := hW₂
    have hcc : c₂ = c := by
      have h1 : s₂.code? g.method = U.code? g.method := by
        rw [State.code?_eq, State.code?_eq, hW'.alike.method?]
      exact Option.some.inj (hc₂.symm.trans (h1.trans h.code))
    subst hcc
    have hlen : len₂ = len := by rw [hdg] at hd₂; cases hd₂; rfl
    subst hlen
    have hs₂ : s₂ = (({ U with heap := s₂.heap, slotsUsed := s₂.slotsUsed } : State).setVm s₂.vm).setTop { g with pc := g.pc + len₂, stack := v.toList ++ g.stack } := by
      refine e3.trans ?_
      rw [hf₂, State.calling_eq h.top, State.setFrames_setFrames, State.setTop_of_frames _ hr', hr]
      rfl
    have hsame : U.sameButNew ({ U with heap := s₂.heap, slotsUsed := s₂.slotsUsed } : State) L mc ms := by
      refine ⟨?_, q2, q3, q4, q5, q6⟩
      obtain ⟨t, ht, -⟩ := State.frames_cons hr
      show ({ U with heap := s₂.heap, slotsUsed := s₂.slotsUsed } : State) = { U.setFrames U.frames with heap := s₂.heap, slotsUsed := s₂.slotsUsed }
      rw [State.setFrames_self ht]
    subst hg
    refine Or.inl ⟨v, ⟨(({ U with heap := s₂.heap, slotsUsed := s₂.slotsUsed } : State).setVm s₂.vm), Ls ++ L, c0 + mc, s0 + ms⟩,
      ⟨X.admits, X.cas, X.clock, X.frames, X.room, X.hears, X.method, X.code, (X.here.setHeapUsed s₂.heap s₂.slotsUsed).setVm hW'.alike, X.tail, State.WarmedH.trans X.warmed hW', X.limits, X.bytes, X.same.trans (hsame.setVm s.vm)⟩,
      ⟨g, mk, s₂, L, rfl, rfl, hqc, rfl, hL, rfl, rfl⟩, ?_⟩
    show Steps p.tables e below _ ((({ U with heap := s₂.heap, slotsUsed := s₂.slotsUsed } : State).setVm s₂.vm).setTop { g with pc := g.pc + len₂, stack := v.toList ++ g.stack })
    rw [← hs₂]
    exact hsteps
  · obtain ⟨e2, q2, q3, q4, q5, q6⟩ := id hsm
    have e3 : s₂ = ({ (U.calling g mk a).setFrames s₂.frames with heap := s₂.heap, slotsUsed := s₂.slotsUsed } : State).setVm s₂.vm := by
      have : s₂ = ({ s₂ with vm := (U.calling g mk a).vm } : State).setVm s₂.vm := rfl
      rw [e2] at this
      exact this
    have hf₂ : s₂.frames = .throwing q :: .java g :: U.frames.tail := hend
    have hW' : U.WarmedH s₂.vm := hW₂
    have hs₂ : s₂ = ((({ U with heap := s₂.heap, slotsUsed := s₂.slotsUsed } : State).setVm s₂.vm).setTop g).pushFrame (.throwing q) := by
      refine e3.trans ?_
      rw [hf₂, State.calling_eq h.top, State.setFrames_setFrames, State.pushFrame, State.frames_setTop _ hr', State.setTop_of_frames _ hr', State.setFrames_setFrames, hr]
      rfl
    have hsame : U.sameButNew ({ U with heap := s₂.heap, slotsUsed := s₂.slotsUsed } : State) L mc ms := by
      refine ⟨?_, q2, q3, q4, q5, q6⟩
      obtain ⟨t, ht, -⟩ := State.frames_cons hr
      show ({ U with heap := s₂.heap, slotsUsed := s₂.slotsUsed } : State) = { U.setFrames U.frames with heap := s₂.heap, slotsUsed := s₂.slotsUsed }
      rw [State.setFrames_self ht]
    subst hg
    refine Or.inr ⟨q, ⟨(({ U with heap := s₂.heap, slotsUsed := s₂.slotsUsed } : State).setVm s₂.vm), Ls ++ L, c0 + mc, s0 + ms⟩,
      ⟨X.admits, X.cas, X.clock, X.frames, X.room, X.hears, X.method, X.code, (X.here.setHeapUsed s₂.heap s₂.slotsUsed).setVm hW'.alike, X.tail, State.WarmedH.trans X.warmed hW', X.limits, X.bytes, X.same.trans (hsame.setVm s.vm)⟩,
      ⟨g, mk, s₂, L, E, ce, rfl, rfl, hx, hce, hcv, hcl, rfl, hL, rfl, rfl⟩, ?_⟩
    show Steps p.tables e below _ (((({ U with heap := s₂.heap, slotsUsed := s₂.slotsUsed } : State).setVm s₂.vm).setTop g).pushFrame (.throwing q))
    rw [← hs₂]
    exact hsteps
end
variable {p : Program} {l : Launch} {e : Env} {R : Room} {s : State} {m : MethodId} {args : Array Value} {below : List Frame} {meth : Method} {c : Code} {T : State} {H : Heap} {locs : List Loc} {cells slots : Nat}
theorem vx_callVX (X : Stand p l e R s m args below meth c T locs cells slots) (hexec : p.tables.exec = Jvm.exec) {own C : String} {index : Nat} {y : MethodName} {bytes : ByteArray} {maxL : Nat} {ret : Option FieldType} {hh : List (Nat × Nat × Nat × Nat)}
    (hown : s.vm.findClass own = some m.cls) (hlink : (Cond.methodLink own index y).before args s = true) (hinst : (Cond.instanceMethod y).before args s = true) (hsel : (Cond.selects C y y).before args s = true)
    (hcode : (Cond.codeWith y bytes maxL ret hh).before args s = true) (hy : y.cls ≠ "java/lang/invoke/MethodHandle" ∧ y.cls ≠ "java/lang/invoke/VarHandle")
    {W9 : Nat} {Pre : Pt → Array Value → Prop} {Post : Pt → Array Value → Option Value → Pt → Prop} {PostX : Pt → Array Value → Addr → Pt → Prop} (hK : vx_Back l R p e below s args y 3 W9 Pre Post PostX)
    {b : Addr} {cellB : Cell} (hcell : T.heap[b]? = some cellB) (hobj : cellB.vm.isStatics = false) (hcls : s.vm.findClass C = some cellB.cls)
    {g : JFrame} (hg : g.method = m) (hsize : g.locals.size = c.maxLocals) {argsL rest : List Value} (hlen : ∀ sig, parseMethodDescriptor y.desc = some sig → argsL.length = sig.parameters.length)
    (hstack : g.stack = argsL.reverse ++ .ref b :: rest) (hW : 2 * g.monitorRoom + (rest.map fun v => v.category).sum ≤ W9) (hdg : decode c.code g.pc = .ok (.invokevirtual index, 3))
    (hpre : ∀ vm₁, s.WarmedH vm₁ → Pre ⟨T.setVm vm₁, locs, cells, slots⟩ (Value.ref b :: argsL).toArray) :
    (∃ (v : Option Value) (vm₁ : Vm) (B : Pt), s.WarmedH vm₁ ∧ Stand p l e R s m args below meth c B.U B.locs B.cells B.slots ∧ Post ⟨T.setVm vm₁, locs, cells, slots⟩ (Value.ref b :: argsL).toArray v B ∧
      ∀ target, Steps p.tables e below (B.U.setTop { g with pc := g.pc + 3, stack := v.toList ++ rest }) target → Steps p.tables e below (T.setTop g) target) ∨
    (∃ (q : Addr) (vm₁ : Vm) (B : Pt), s.WarmedH vm₁ ∧ Stand p l e R s m args below meth c B.U B.locs B.cells B.slots ∧ PostX ⟨T.setVm vm₁, locs, cells, slots⟩ (Value.ref b :: argsL).toArray q B ∧
      Steps p.tables e below (T.setTop g) ((B.U.setTop { g with stack := rest }).pushFrame (.throwing q))) := by
  obtain ⟨mk, methM, hnamed, hmethM, hstM, habM⟩ := Cond.instanceMethod_spec hinst
  obtain ⟨m8, methM', cM, hn8, hmethM', -, -, -, -, -, -, hsigM⟩ := Cond.codeWith_spec hcode
  cases Option.some.inj (hn8.symm.trans hnamed)
  cases hmethM.symm.trans hmethM'
  obtain ⟨c2, r2, m2, q1, q2, q3, q4, kP, hkP, hkPi⟩ := Cond.selects_spec hsel
  cases hcls.symm.trans q1
  cases (State.methodFound?_of_named hnamed hy).symm.trans q2
  cases hnamed.symm.trans q3
  have hselP : selectMethod e.platform s.vm cellB.cls mk = .method mk := by rw [Launch.admits_selectMethod X.admits]; exact q4
  obtain ⟨vm₁, X₁, hstep₁⟩ := X.invokevirtual hexec hown hlink hnamed hmethM hstM hkP hkPi hy (a := b) (cell := cellB) hcell
    (fun z h => by rw [h] at hobj; cases hobj) hselP hmethM habM hkP hkPi (g := g) hg (argsL := argsL) (rest := rest) (hlen _ hsigM) hstack hdg
  rcases hK m meth c ⟨T.setVm vm₁, locs, cells, slots⟩ { g with stack := rest } (.invokevirtual index) mk (Value.ref b :: argsL).toArray X₁ hg hsize hdg hW (X₁.named hnamed) (hpre vm₁ X₁.warmed) with ⟨v, B, X', hpost, hsteps⟩ | ⟨q, B, X', hpost, hsteps⟩
  · exact Or.inl ⟨v, vm₁, B, X₁.warmed, X', hpost, fun target h => hstep₁ _ fun acts => by rw [doInvoke_state]; exact hsteps.trans h⟩
  · exact Or.inr ⟨q, vm₁, B, X₁.warmed, X', hpost, hstep₁ _ fun acts => by rw [doInvoke_state]; exact hsteps⟩
theorem vx_callSX (X : Stand p l e R s m args below meth c T locs cells slots) (hexec : p.tables.exec = Jvm.exec) {own : String} {index : Nat} {y : MethodName} {bytes : ByteArray} {maxL : Nat} {ret : Option FieldType} {hh : List (Nat × Nat × Nat × Nat)}
    (hown : s.vm.findClass own = some m.cls) (hlink : (Cond.methodLink own index y).before args s = true) (hstat : (Cond.static y).before args s = true) (hinit : (Cond.initialized y.cls).before args s = true)
    (hcode : (Cond.codeWith y bytes maxL ret hh).before args s = true) (hy : y.cls ≠ "java/lang/invoke/MethodHandle" ∧ y.cls ≠ "java/lang/invoke/VarHandle")
    {W9 : Nat} {Pre : Pt → Array Value → Prop} {Post : Pt → Array Value → Option Value → Pt → Prop} {PostX : Pt → Array Value → Addr → Pt → Prop} (hK : vx_Back l R p e below s args y 3 W9 Pre Post PostX)
    {g : JFrame} (hg : g.method = m) (hsize : g.locals.size = c.maxLocals) {argsL rest : List Value} (hlen : ∀ sig, parseMethodDescriptor y.desc = some sig → argsL.length = sig.parameters.length)
    (hstack : g.stack = argsL.reverse ++ rest) (hW : 2 * g.monitorRoom + (rest.map fun v => v.category).sum ≤ W9) (hdg : decode c.code g.pc = .ok (.invokestatic index, 3))
    (hpre : ∀ vm₁, s.WarmedH vm₁ → Pre ⟨T.setVm vm₁, locs, cells, slots⟩ argsL.toArray) :
    (∃ (v : Option Value) (vm₁ : Vm) (B : Pt), s.WarmedH vm₁ ∧ Stand p l e R s m args below meth c B.U B.locs B.cells B.slots ∧ Post ⟨T.setVm vm₁, locs, cells, slots⟩ argsL.toArray v B ∧
      ∀ target, Steps p.tables e below (B.U.setTop { g with pc := g.pc + 3, stack := v.toList ++ rest }) target → Steps p.tables e below (T.setTop g) target) ∨
    (∃ (q : Addr) (vm₁ : Vm) (B : Pt), s.WarmedH vm₁ ∧ Stand p l e R s m args below meth c B.U B.locs B.cells B.slots ∧ PostX ⟨T.setVm vm₁, locs, cells, slots⟩ argsL.toArray q B ∧
      Steps p.tables e below (T.setTop g) ((B.U.setTop { g with stack := rest }).pushFrame (.throwing q))) := by
  obtain ⟨mk, methM, cM, hnamed, hmethM, -, -, -, -, -, -, hsigM⟩ := Cond.codeWith_spec hcode
  have hstatic : methM.isStatic = true := Cond.static_spec hnamed hmethM hstat
  obtain ⟨kP, hkP, -⟩ := className_of_methodNamed hnamed
  have hinitP : kP.init = .initialized := Cond.initialized_spec (findClass_of_methodNamed hnamed) hkP hinit
  obtain ⟨vm₁, X₁, hstep₁⟩ := X.invokestatic hexec hown hlink hnamed hmethM hstatic hkP hinitP hy (g := g) hg (argsL := argsL) (rest := rest) (hlen _ hsigM) hstack hdg
  rcases hK m meth c ⟨T.setVm vm₁, locs, cells, slots⟩ { g with stack := rest } (.invokestatic index) mk argsL.toArray X₁ hg hsize hdg hW (X₁.named hnamed) (hpre vm₁ X₁.warmed) with ⟨v, B, X', hpost, hsteps⟩ | ⟨q, B, X', hpost, hsteps⟩
  · exact Or.inl ⟨v, vm₁, B, X₁.warmed, X', hpost, fun target h => hstep₁ _ fun acts => by rw [doInvoke_state]; exact hsteps.trans h⟩
  · exact Or.inr ⟨q, vm₁, B, X₁.warmed, X', hpost, hstep₁ _ fun acts => by rw [doInvoke_state]; exact hsteps⟩
theorem vx_callVW (X : Stand p l e R s m args below meth c T locs cells slots) (hexec : p.tables.exec = Jvm.exec) {own C : String} {index : Nat} {y : MethodName} {bytes : ByteArray} {maxL : Nat} {ret : Option FieldType} {hh : List (Nat × Nat × Nat × Nat)}
    (hown : s.vm.findClass own = some m.cls) (hlink : (Cond.methodLink own index y).before args s = true) (hinst : (Cond.instanceMethod y).before args s = true) (hsel : (Cond.selects C y y).before args s = true)
    (hcode : (Cond.codeWith y bytes maxL ret hh).before args s = true) (hy : y.cls ≠ "java/lang/invoke/MethodHandle" ∧ y.cls ≠ "java/lang/invoke/VarHandle")
    {W9 : Nat} {Pre : Pt → Array Value → Prop} {Post : Pt → Array Value → Option Value → Pt → Prop} (hK : Back l R p e below s args y 3 W9 Pre Post)
    {b : Addr} {cellB : Cell} (hcell : T.heap[b]? = some cellB) (hobj : cellB.vm.isStatics = false) (hcls : s.vm.findClass C = some cellB.cls)
    {g : JFrame} (hg : g.method = m) (hsize : g.locals.size = c.maxLocals) {argsL rest : List Value} (hlen : ∀ sig, parseMethodDescriptor y.desc = some sig → argsL.length = sig.parameters.length)
    (hstack : g.stack = argsL.reverse ++ .ref b :: rest) (hW : 2 * g.monitorRoom + (rest.map fun v => v.category).sum ≤ W9) (hdg : decode c.code g.pc = .ok (.invokevirtual index, 3))
    (hpre : ∀ vm₁, s.WarmedH vm₁ → Pre ⟨T.setVm vm₁, locs, cells, slots⟩ (Value.ref b :: argsL).toArray) :
    ∃ (v : Option Value) (vm₁ : Vm) (B : Pt), s.WarmedH vm₁ ∧ Stand p l e R s m args below meth c B.U B.locs B.cells B.slots ∧ Post ⟨T.setVm vm₁, locs, cells, slots⟩ (Value.ref b :: argsL).toArray v B ∧
      ∀ target, Steps p.tables e below (B.U.setTop { g with pc := g.pc + 3, stack := v.toList ++ rest }) target → Steps p.tables e below (T.setTop g) target := by
  obtain ⟨mk, methM, hnamed, hmethM, hstM, habM⟩ := Cond.instanceMethod_spec hinst
  obtain ⟨m8, methM', cM, hn8, hmethM', -, -, -, -, -, -, hsigM⟩ := Cond.codeWith_spec hcode
  cases Option.some.inj (hn8.symm.trans hnamed)
  cases hmethM.symm.trans hmethM'
  obtain ⟨c2, r2, m2, q1, q2, q3, q4, kP, hkP, hkPi⟩ := Cond.selects_spec hsel
  cases hcls.symm.trans q1
  cases (State.methodFound?_of_named hnamed hy).symm.trans q2
  cases hnamed.symm.trans q3
  have hselP : selectMethod e.platform s.vm cellB.cls mk = .method mk := by rw [Launch.admits_selectMethod X.admits]; exact q4
  obtain ⟨vm₁, X₁, hstep₁⟩ := X.invokevirtual hexec hown hlink hnamed hmethM hstM hkP hkPi hy (a := b) (cell := cellB) hcell
    (fun z h => by rw [h] at hobj; cases hobj) hselP hmethM habM hkP hkPi (g := g) hg (argsL := argsL) (rest := rest) (hlen _ hsigM) hstack hdg
  obtain ⟨v, B, X', hpost, hsteps⟩ := hK m meth c ⟨T.setVm vm₁, locs, cells, slots⟩ { g with stack := rest } (.invokevirtual index) mk (Value.ref b :: argsL).toArray X₁ hg hsize hdg hW (X₁.named hnamed) (hpre vm₁ X₁.warmed)
  exact ⟨v, vm₁, B, X₁.warmed, X', hpost, fun target h => hstep₁ _ fun acts => by rw [doInvoke_state]; exact hsteps.trans h⟩
abbrev vx_CVW (R : Room) (s : State) (args : Array Value) (own C : String) (index : Nat) (y : MethodName) (bytes : ByteArray) (maxL : Nat) (ret : Option FieldType) (hh : List (Nat × Nat × Nat × Nat)) (ws : List Cond) (rm : Room) (mc ms n : Nat) : Prop :=
  (rm.cells = mc ∧ rm.slots = ms ∧ rm.frames + 1 ≤ R.frames ∧ 8 + (maxL + 11) + rm.locals ≤ R.locals ∧ (∀ w ∈ ws, ∀ (a' : Array Value) (U : State), s.WarmedH U.vm → w.before a' U = true) ∧ Cond.codeWith y bytes maxL ret hh ∈ ws) ∧
  (Cond.codeWith y bytes maxL ret hh).before args s = true ∧ (Cond.initialized y.cls).before args s = true ∧ (y.cls ≠ "java/lang/invoke/MethodHandle" ∧ y.cls ≠ "java/lang/invoke/VarHandle") ∧
  (∀ sig, parseMethodDescriptor y.desc = some sig → n = sig.parameters.length) ∧ (Cond.methodLink own index y).before args s = true ∧ (Cond.instanceMethod y).before args s = true ∧ (Cond.selects C y y).before args s = true
theorem vx_cwVW {own C : String} {index maxL mc ms : Nat} {y : MethodName} {bytes : ByteArray} {ret : Option FieldType} {hh : List (Nat × Nat × Nat × Nat)} {Ts ws ws' : List Cond} {rm : Room} (n : Nat) (ht : ∀ w ∈ Ts, w.before args s = true) (hT : GoodIn Ts (wsV own index C y ws)) (hw : ws = Cond.codeWith y bytes maxL ret hh :: ws') (hrc : rm.cells = mc) (hrs : rm.slots = ms)
    (hd : y.cls = C ∧ y.cls ≠ "java/lang/invoke/MethodHandle" ∧ y.cls ≠ "java/lang/invoke/VarHandle" ∧ (parseMethodDescriptor y.desc).map (fun d => d.parameters.length) = some n) (hR : rm.frames + 1 ≤ R.frames ∧ 8 + (maxL + 11) + rm.locals ≤ R.locals) :
    vx_CVW R s args own C index y bytes maxL ret hh ws rm mc ms n := by
  obtain ⟨hC, hd⟩ := hd
  subst hC
  have ok : ∀ w ∈ wsV own index y.cls y ws, w.before args s = true := fun w h => ht w (hT w h).1
  have hG : GoodIn Ts ws := fun w h => hT w (by unfold wsV; exact List.mem_append_right _ h)
  have hc : Cond.codeWith y bytes maxL ret hh ∈ ws := by rw [hw]; exact List.mem_cons_self
  refine ⟨⟨hrc, hrs, hR.1, hR.2, pay_in ht hG, hc⟩, ht _ (hG _ hc).1, ok _ (by simp [wsV]), ⟨hd.1, hd.2.1⟩, fun sig h => ?_, ok _ (by simp [wsV]), ok _ (by simp [wsV]), ok _ (by simp [wsV])⟩
  have h2 := hd.2.2
  rw [h] at h2
  exact (Option.some.inj h2).symm
theorem vx_runVW {y : MethodName} {bytes cc : ByteArray} {maxL nL mc ms n index : Nat} {ret : Option FieldType} {hh : List (Nat × Nat × Nat × Nat)} {ws : List Cond} {rm : Room} {Pc : Array Value → State → Prop} {Qc : Array Value → State → Outcome → State → Prop} {free : Addr → Prop} {Ts : List Cond} {own C : String} {b : Addr} {As rest : List Value} {g : JFrame}
    (S : CallFix p m c cc nL s args Ts own) (hM : Met l y ws rm Pc Qc mc ms free) (cw : vx_CVW R s args own C index y bytes maxL ret hh ws rm mc ms n) (hp : PreV s H C b Pc As)
    (hg : g.method = m) (hn : As.length = n) (hsize : g.locals.size = nL) (hstack : g.stack = As.reverse ++ .ref b :: rest) (hW : 2 * g.monitorRoom + (rest.map fun v => v.category).sum ≤ 8) (hdg : decode cc g.pc = .ok (.invokevirtual index, 3)) (hf : cells + mc ≤ R.cells ∧ slots + ms ≤ R.slots) :
    va_Run p l e R s m args below meth c H locs cells slots mc ms g rest (Qc (Value.ref b :: As).toArray) free := by
  obtain ⟨⟨hrc, hrs, hfr, hlo, hws, hcw⟩, hcode, hini, hy, hlen, hl, hin, hse⟩ := cw
  have hK : Back l R p e below s args y 3 8 (PreOf R mc ms Pc) (PostOf Qc mc ms free) := va_backW (hh := hh) (bytes := bytes) (maxL := maxL) (ret := ret) hM hp.1 hrc hrs hfr hlo hws hcw (fun a' U hW => word_at hW (Or.inl (by first | rfl | simp [Cond.onTables, Cond.keeps, Cond.steady])) hini)
  obtain ⟨hx, hb, hml, ho, -⟩ := S
  obtain ⟨-, ⟨cellB, hcB, hoB, hclB⟩, hPc⟩ := hp
  intro T hT X
  obtain ⟨v, vm₁, ⟨U', l2, c2, s2⟩, hW₁, X', ⟨g', mk, t, L, e1, e2, hq, h1, hL, h2, h3⟩, st⟩ := vx_callVW X hx (C := C) (hh := hh) (bytes := bytes) (maxL := maxL) (ret := ret) ho hl hin hse hcode hy hK (by rw [hT]; exact hcB) hoB hclB hg (hsize.trans hml.symm) (argsL := As) (rest := rest) (fun sig h => hn.trans (hlen sig h)) hstack hW (by rw [hb]; exact hdg)
    (fun vm₁ hW₁ => ⟨hf.1, hf.2, hPc (T.setVm vm₁) hT hW₁⟩)
  dsimp only [Pt.U, Pt.locs, Pt.cells, Pt.slots] at X' e1 e2 h1 h2 h3 st
  subst h1; subst h2; subst h3
  exact ⟨v, (T.setVm vm₁).calling g' mk (Value.ref b :: As).toArray, t, U', L, hT, X', hL, e1, e2, hq, st⟩
section
variable {y : MethodName} {bytes cc : ByteArray} {maxL nL mc ms n index : Nat} {ret : Option FieldType} {ws : List Cond} {rm : Room} {Pc : Array Value → State → Prop} {Qc : Array Value → State → Outcome → State → Prop} {XC : String → State → State → Prop} {free : Addr → Prop} {Ts : List Cond} {own C : String} {b : Addr} {As rest : List Value} {g : JFrame}
theorem vx_runVX {hh : List (Nat × Nat × Nat × Nat)} (S : CallFix p m c cc nL s args Ts own) (hM : vx_Met l y ws rm Pc Qc XC mc ms free) (cw : vx_CVW R s args own C index y bytes maxL ret hh ws rm mc ms n) (hp : PreV s H C b Pc As)
    (hg : g.method = m) (hn : As.length = n) (hsize : g.locals.size = nL) (hstack : g.stack = As.reverse ++ .ref b :: rest) (hW : 2 * g.monitorRoom + (rest.map fun v => v.category).sum ≤ 8) (hdg : decode cc g.pc = .ok (.invokevirtual index, 3)) (hf : cells + mc ≤ R.cells ∧ slots + ms ≤ R.slots) :
    vx_Run p l e R s m args below meth c H locs cells slots mc ms g rest (Qc (Value.ref b :: As).toArray) XC free := by
  obtain ⟨⟨hrc, hrs, hfr, hlo, hws, hcw⟩, hcode, hini, hy, hlen, hl, hin, hse⟩ := cw
  have hK : vx_Back l R p e below s args y 3 8 (PreOf R mc ms Pc) (PostOf Qc mc ms free) (vx_Post XC mc ms free) := vx_backW (hh := hh) (bytes := bytes) (maxL := maxL) (ret := ret) hM hp.1 hrc hrs hfr hlo hws hcw (fun a' U hW => word_at hW (Or.inl (by first | rfl | simp [Cond.onTables, Cond.keeps, Cond.steady])) hini)
  obtain ⟨hx, hb, hml, ho, -⟩ := S
  obtain ⟨-, ⟨cellB, hcB, hoB, hclB⟩, hPc⟩ := hp
  intro T hT X
  rcases vx_callVX X hx (C := C) (hh := hh) (bytes := bytes) (maxL := maxL) (ret := ret) ho hl hin hse hcode hy hK (by rw [hT]; exact hcB) hoB hclB hg (hsize.trans hml.symm) (argsL := As) (rest := rest) (fun sig h => hn.trans (hlen sig h)) hstack hW (by rw [hb]; exact hdg)
    (fun vm₁ hW₁ => ⟨hf.1, hf.2, hPc (T.setVm vm₁) hT hW₁⟩) with ⟨v, vm₁, ⟨U', l2, c2, s2⟩, hW₁, X', ⟨g', mk, t, L, e1, e2, hq, h1, hL, h2, h3⟩, st⟩ | ⟨q, vm₁, ⟨U', l2, c2, s2⟩, hW₁, X', ⟨g', mk, t, L, E, ce, e1, e2, hq, hce, hcv, hcl, h1, hL, h2, h3⟩, st⟩
  · dsimp only [Pt.U, Pt.locs, Pt.cells, Pt.slots] at X' e1 e2 h1 h2 h3 st
    subst h1; subst h2; subst h3
    exact Or.inl ⟨v, (T.setVm vm₁).calling g' mk (Value.ref b :: As).toArray, t, U', L, hT, X', hL, e1, e2, hq, st⟩
  · dsimp only [Pt.U, Pt.locs, Pt.cells, Pt.slots] at X' e1 e2 h1 h2 h3 st hcl
    subst h1; subst h2; subst h3
    exact Or.inr ⟨q, (T.setVm vm₁).calling g' mk (Value.ref b :: As).toArray, t, U', L, E, ce, hT, X', hL, e1, e2, hq, hce, hcv, vx_cls hW₁ hcl, st⟩
theorem vx_runSX {hh : List (Nat × Nat × Nat × Nat)} (S : CallFix p m c cc nL s args Ts own) (hM : vx_Met l y ws rm Pc Qc XC mc ms free) (cw : vx_CSW R s args own index y bytes maxL ret hh ws rm mc ms n) (hp : PreS s H Pc As)
    (hg : g.method = m) (hn : As.length = n) (hsize : g.locals.size = nL) (hstack : g.stack = As.reverse ++ rest) (hW : 2 * g.monitorRoom + (rest.map fun v => v.category).sum ≤ 8) (hdg : decode cc g.pc = .ok (.invokestatic index, 3)) (hf : cells + mc ≤ R.cells ∧ slots + ms ≤ R.slots) :
    vx_Run p l e R s m args below meth c H locs cells slots mc ms g rest (Qc As.toArray) XC free := by
  obtain ⟨⟨hrc, hrs, hfr, hlo, hws, hcw⟩, hcode, hini, hy, hlen, hl, hstt⟩ := cw
  have hK : vx_Back l R p e below s args y 3 8 (PreOf R mc ms Pc) (PostOf Qc mc ms free) (vx_Post XC mc ms free) := vx_backW (hh := hh) (bytes := bytes) (maxL := maxL) (ret := ret) hM hp.1 hrc hrs hfr hlo hws hcw (fun a' U hW => word_at hW (Or.inl (by first | rfl | simp [Cond.onTables, Cond.keeps, Cond.steady])) hini)
  obtain ⟨hx, hb, hml, ho, -⟩ := S
  intro T hT X
  rcases vx_callSX X hx (hh := hh) (bytes := bytes) (maxL := maxL) (ret := ret) ho hl hstt hini hcode hy hK hg (hsize.trans hml.symm) (argsL := As) (rest := rest) (fun sig h => hn.trans (hlen sig h)) hstack hW (by rw [hb]; exact hdg)
    (fun vm₁ hW₁ => ⟨hf.1, hf.2, hp.2 (T.setVm vm₁) hT hW₁⟩) with ⟨v, vm₁, ⟨U', l2, c2, s2⟩, hW₁, X', ⟨g', mk, t, L, e1, e2, hq, h1, hL, h2, h3⟩, st⟩ | ⟨q, vm₁, ⟨U', l2, c2, s2⟩, hW₁, X', ⟨g', mk, t, L, E, ce, e1, e2, hq, hce, hcv, hcl, h1, hL, h2, h3⟩, st⟩
  · dsimp only [Pt.U, Pt.locs, Pt.cells, Pt.slots] at X' e1 e2 h1 h2 h3 st
    subst h1; subst h2; subst h3
    exact Or.inl ⟨v, (T.setVm vm₁).calling g' mk As.toArray, t, U', L, hT, X', hL, e1, e2, hq, st⟩
  · dsimp only [Pt.U, Pt.locs, Pt.cells, Pt.slots] at X' e1 e2 h1 h2 h3 st hcl
    subst h1; subst h2; subst h3
    exact Or.inr ⟨q, (T.setVm vm₁).calling g' mk As.toArray, t, U', L, E, ce, hT, X', hL, e1, e2, hq, hce, hcv, vx_cls hW₁ hcl, st⟩
end
end VXH
theorem vx_ofWH {l : Launch} {y : MethodName} {ws ws' : List Cond} {rm : Room} {Pc : Array Value → State → Prop} {Qc : Array Value → State → Outcome → State → Prop} {XC : String → State → State → Prop} {mc ms : Nat} {free : Addr → Prop} {cc : ByteArray} {maxL : Nat} {ret : Option FieldType} {hh : List (Nat × Nat × Nat × Nat)}
    (hy : plainName y.cls = true) (hw : ws = Cond.codeWith y cc maxL ret hh :: ws')
    (body : ∀ p e s m args below meth c s₁, BodyLoose p l y (headSpec ws rm) cc maxL ret e s m args below meth c s₁ → c.maxLocals = maxL → Pc args s →
      W p l e (headSpec ws rm).room s m args below meth c s.heap [] 0 0 (vx_MQ below Qc XC args s mc ms free) (entryFrame m args maxL)) : vx_Met l y ws rm Pc Qc XC mc ms free := by
  refine MetFree.of_bodyS (code := cc) (maxLocals := maxL) (ret := ret) hy ?_ ?_
  · intro args s m h hn
    obtain ⟨m9, meth, c, hn9, h1, h2, h3, h4, -, h5, h6, -⟩ := Cond.codeWith_spec (atoms_spec (ws := ws) h _ (by rw [hw]; exact List.mem_cons_self))
    cases hn.symm.trans hn9
    exact ⟨meth, c, h1, h2, h3, h4, h5, h6⟩
  · intro p e s m args below meth c s₁ B hml hP _
    have hh0 : s₁.heap = s.heap := by rw [B.state]; rfl
    obtain ⟨t, a1, o, b1, b2, b3⟩ := body p e s m args below meth c s₁ B hml hP s₁ hh0 (Stand.of_body B)
    exact ⟨t, o, a1, b1, b2, b3⟩
/-! ===== END ===== -/
/-! ===== BEGIN what the machine throws by itself, no traces kept ===== -/
section VXM
set_option maxHeartbeats 1000000 in
/-- the machine throws cls with the message text, no traces kept: from its note over the frame g to 'throwing' over the same frame (follows the proofs of Stand.vmThrowsMessage, Shelf/KitTracedVmS.lean, and Stand.throwsMessageColdBareV, StandMessageColdV.lean, without the step out of the frame) -/
theorem vx_vmAt {p : Program} {l : Launch} {e : Env} {R : Room} {s : State} {m₀ : MethodId} {args : Array Value} {below : List Frame} {meth : Method} {c : Code} {W : State} {locs : List Loc} {cells slots : Nat}
    (X : Stand p l e R s m₀ args below meth c W locs cells slots) (hexec : p.tables.exec = Jvm.exec) (htr : e.platform.stackTraces = false) {cls : String} {names : List String} {text : String}
    (hcls : Bundle.fit cls = true) (hnames : ∀ n ∈ names, Bundle.fit n = true) (hsoe : (cls == "java/lang/StackOverflowError") = false) (hoom : (cls == "java/lang/OutOfMemoryError") = false)
    (h : ∀ a ∈ Bundle.messageArmAtoms cls names, a.before args s = true)
    (hlocs : ∀ x ∈ locs, ∀ cell, s.heap[x.base]? = some cell → cell.vm.isStatics = false)
    (htext : (text == notModelled) = false) (hlimit : ¬ (stringBytes (stringToUtf16 text)).size > e.platform.arrayLengthLimit) (hheap : ¬ (stringBytes (stringToUtf16 text)).size * componentBytes .byte > e.platform.maxHeapBytes)
    {g : JFrame} (hg : g.method = m₀) (hsize : g.locals.size = c.maxLocals)
    (hRframes : names.length + 4 < R.frames) (hRlocals : 2 * g.monitorRoom + (g.stack.map fun v => v.category).sum + 10240 ≤ R.locals) (hshort : 13 * names.length + 55 ≤ 10240)
    (hRcells : cells + 3 ≤ R.cells) (hRslots : slots + ((stringBytes (stringToUtf16 text)).size + 4 + 6) ≤ R.slots) (hlocks : meth.locks = false) :
    ∃ (S : State) (q : Addr) (ce : Cell), (∀ target, Steps p.tables e below ((S.setTop g).pushFrame (.throwing q)) target → Steps p.tables e below ((W.setTop g).pushFrame (.throwNew cls (some text) none)) target) ∧
      Stand p l e R s m₀ args below meth c S locs (cells + 3) (slots + ((stringBytes (stringToUtf16 text)).size + 4 + 6)) ∧ S.heap[q]? = some ce ∧ s.vm.findClass cls = some ce.cls ∧ ce.vm = .none := by
  have howns : e.platform.frameOwnsMonitors = true := by rw [X.admits.platform]
  have hfin : e.platform.finalization = false := by rw [X.admits.platform]
  have hpl : e.platform.magicAccessors = ({} : Platform).magicAccessors := by rw [X.admits.platform]
  have a : ∀ x, x ∈ Bundle.messageArmAtoms cls names → x.holds args s none s [] = true := fun x hx => h x hx
  obtain ⟨T, Z0, L, -, Y⟩ := ThrowableC.of_atoms (args := args) howns hfin hpl (fun x hx => h x (by simp [Bundle.messageArmAtoms, hx]))
  obtain ⟨Z, M, LZ, LM, hnZ⟩ := Init0T.ofS_atoms (args := args) hpl L Y (fun x hx => h x (by simp [Bundle.messageArmAtoms, hx]))
  obtain ⟨P1, Ps, hlen, L1, hL, hP1m, hlink1, hlink⟩ := Bundle.chainS (args := args) hpl hnZ names cls hcls hnames (fun x hx => h x (by simp [Bundle.messageArmAtoms, hx]))
  obtain ⟨Zs, LZs, hn4, hfitv, hfitc⟩ := StringT.of_atoms (args := args) (fun x hx => h x (by simp [Bundle.messageArmAtoms, hx]))
  have hfound : s.vm.findClass cls = some P1.m.cls := findClass_of_methodNamed hP1m
  obtain ⟨c1, kX, hc1, hk, hord, -, -, hn6⟩ := Cond.instantiable_spec (a (.instantiable cls 6) (by simp [Bundle.messageArmAtoms]))
  cases Option.some.inj (hc1.symm.trans hfound)
  have hinit := Cond.initialized_spec hfound hk (a (.initialized cls) (by simp [Bundle.messageArmAtoms]))
  have hctor : kX.findMethod "<init>" "(Ljava/lang/String;)V" = some P1.m.idx := findMethod_of_methodNamed hP1m hk
  have hsel0 : selectMethod e.platform s.vm P1.m.cls T.fill0 = .method T.fill0 := by
    obtain ⟨c2, r2, m2, q1, q2, q3, q4, -⟩ := Cond.selects_spec (a (.selects cls Bundle.tFill0 Bundle.tFill0) (by simp [Bundle.messageArmAtoms]))
    cases Option.some.inj (q1.symm.trans hfound)
    cases Option.some.inj (q2.symm.trans (State.methodFound?_of_named Y.fill0 (by decide)))
    cases Option.some.inj (q3.symm.trans Y.fill0)
    rw [Launch.admits_selectMethod X.admits]; exact q4
  have hselF : selectMethod e.platform s.vm P1.m.cls T.fill = .method T.fill := by
    obtain ⟨c2, r2, m2, q1, q2, q3, q4, -⟩ := Cond.selects_spec (a (.selects cls Bundle.tFill Bundle.tFill) (by simp [Bundle.messageArmAtoms]))
    cases Option.some.inj (q1.symm.trans hfound)
    cases Option.some.inj (q2.symm.trans (State.methodFound?_of_named Y.fill (by decide)))
    cases Option.some.inj (q3.symm.trans Y.fill)
    rw [Launch.admits_selectMethod X.admits]; exact q4
  obtain ⟨cellS0, hcS0, hiss⟩ := Y.statics
  obtain ⟨u0, hu0⟩ := Cond.staticRefV Y.unassigned L.unassignedStatic L.statics hcS0 hiss (a (.isRef (.static Bundle.tN "UNASSIGNED_STACK" Bundle.steD)) (by simp [Bundle.messageArmAtoms]))
  obtain ⟨sen, hsen⟩ := Cond.staticRefV Y.sentinel L.sentinelStatic L.statics hcS0 hiss (a (.isRef (.static Bundle.tN "SUPPRESSED_SENTINEL" Bundle.listD)) (by simp [Bundle.messageArmAtoms]))
  obtain ⟨ci198, i198, fB, hk198, hg198, ha198, hsB, -, hnB, htB, hffB⟩ := Cond.ownField (t := .object "java/lang/Object") Y.found L.cls (by decide +kernel) (a (.fieldLink Bundle.tN 198 Bundle.tN "backtrace" "Ljava/lang/Object;") (by simp [Bundle.messageArmAtoms])) (a (.lays Bundle.tN Bundle.tN "backtrace" "Ljava/lang/Object;") (by simp [Bundle.messageArmAtoms])) e.platform hpl
  obtain ⟨cellS, hcS', heS, -, hkeep⟩ := X.same.2.2.2.2.2 T.aS cellS0 hcS0
  have hcellS : W.heap[T.aS]? = some cellS := hcS'
  have hout' : ∀ i, (⟨T.aS, i⟩ : Loc) ∉ locs := fun i hmem => by
    have := hlocs _ hmem cellS0 hcS0
    rw [hiss] at this; cases this
  have hknownS : cellS.vm ≠ .unknown := by
    rw [heS]; intro hu
    rw [show cellS0.vm = .unknown from hu] at hiss
    cases hiss
  have hvU : cellS.slots[T.fUnassigned.slot]? = some u0.v := by rw [hkeep _ (hout' _)]; exact hu0
  have hvSen : cellS.slots[T.fSentinel.slot]? = some sen.v := by rw [hkeep _ (hout' _)]; exact hsen
  obtain ⟨iM, hffM⟩ := Y.msg
  obtain ⟨tyC, dC, hdC, hdnC⟩ := Cond.laysAt hfound hk Y.cause (a (.lays cls Bundle.tN "cause" "Ljava/lang/Throwable;") (by simp [Bundle.messageArmAtoms]))
  obtain ⟨tyS, dS, hdS, hdnS⟩ := Cond.laysAt hfound hk Y.stack (a (.lays cls Bundle.tN "stackTrace" Bundle.steD) (by simp [Bundle.messageArmAtoms]))
  obtain ⟨tyP, dP, hdP, hdnP⟩ := Cond.laysAt hfound hk Y.supp (a (.lays cls Bundle.tN "suppressedExceptions" Bundle.listD) (by simp [Bundle.messageArmAtoms]))
  obtain ⟨tyM, dM, hdM, hdnM⟩ := Cond.laysAt hfound hk hffM (a (.lays cls Bundle.tN "detailMessage" "Ljava/lang/String;") (by simp [Bundle.messageArmAtoms]))
  obtain ⟨tyB, dB, hdB, hdnB⟩ := Cond.laysAt hfound hk hffB (a (.lays cls Bundle.tN "backtrace" "Ljava/lang/Object;") (by simp [Bundle.messageArmAtoms]))
  have bC := Cond.laysApart hdB hdC hdnB hdnC (by rw [hnB, Y.causeName]; decide)
  have bS := Cond.laysApart hdB hdS hdnB hdnS (by rw [hnB, Y.stackName]; decide)
  have bP := Cond.laysApart hdB hdP hdnB hdnP (by rw [hnB, Y.suppName]; decide)
  have hbk : ((preparedCellV T.toThrowableT (freshCell P1.m.cls kX) (W.heap.size + 2) u0 sen).withEntry W.cur).slots[fB.slot]? = some .null := by
    have := fresh_default (c := P1.m.cls) tyB
    rw [htB] at this
    simpa [preparedCellV, Cell.setSlot, Cell.withEntry, Array.getElem?_setIfInBounds, bC, bS, bP, bC.symm, bS.symm, bP.symm, defaultValue] using this
  have tkC := Takes.of_laid (v := .ref (W.heap.size + 2)) hk hord tyC (by rw [Y.causeType]; rfl)
  have tkS := Takes.of_laid (v := u0.v) hk hord tyS (by rw [Y.stackType]; exact fits_refV_array _ u0)
  have tkP := Takes.of_laid (v := sen.v) hk hord tyP (by rw [Y.suppType]; exact fits_refV_object _ sen)
  have tkM := Takes.of_laid (v := .ref (W.heap.size + 1)) hk hord tyM (by rw [Y.msgType]; rfl)
  have hskip : SkipFacts T e.platform s (fun u => u) u0 ((preparedCellV T.toThrowableT (freshCell P1.m.cls kX) (W.heap.size + 2) u0 sen).withEntry W.cur) := ⟨{ ci198 := ci198, i198 := i198, fBack := fB }, ⟨hk198, hg198, ha198, hsB⟩, hbk, fun _ _ => rfl⟩
  have h0 : At W g.method c below := by rw [hg]; exact X.here
  obtain ⟨hbeyond, hfreeW⟩ := X.vmMayThrow hsize (.throwNew cls (some text) none) (fun f hf => by cases hf) rfl hRlocals
  have hfr' : W.frames.length + Ps.length + 4 < (e.platform.stackLimits W.me).1 := by have := X.framesAbove hRframes; omega
  have hwd' : (stackUse (.java g :: W.frames.tail)).2 + 13 * Ps.length + 55 ≤ (e.platform.stackLimits W.me).2 := by have := X.stackAbove hsize (K := 13 * Ps.length + 55) (by omega); omega
  have hslots : W.slotsUsed + (stringBytes (stringToUtf16 text)).size + Zs.kS.instanceTypes.size + kX.instanceTypes.size ≤ e.platform.maxSlots := by
    have := X.slotsAbove hRslots
    rw [hn4, hn6]
    omega
  obtain ⟨vm', hW', st⟩ := Steps.vmThrowsMessageColdByV p (s₀ := s) (S := W) (g := g) h0 hexec T L Z LZ M LM X.warmed (t := W.cur) rfl Zs LZs P1 L1 Ps hL hlink1 hlink hsoe hoom hfound hk hinit hord hctor
    (Launch.admits_hotImplicitExceptions X.admits) hbeyond hfreeW htext hlimit hheap (X.cellsAbove hRcells) hslots (hfitv _) (hfitc _)
    (Nn := fun u => u) heapOnly_id (fun _ _ => rfl) (fun _ => rfl) (fun u x y => setCell_twice _ _ _ _) (fun _ => Nat.le_refl _) (cN := ((preparedCellV T.toThrowableT (freshCell P1.m.cls kX) (W.heap.size + 2) u0 sen).withEntry W.cur))
    hsel0 hcellS hknownS hvU tkS (fun _ hu => hu) (fun _ hu => hu) rfl rfl rfl (by simp [preparedCellV, Cell.setSlot, Cell.withEntry]) hskip (fun _ _ hA hW _ hroom _ hrest => L.nativeOff p htr hA hW hroom hrest) hselF hvSen tkC tkP tkM Y.objLocals rfl hfr' hwd'
  rw [plainBareV_eq T.toThrowableT (W.heap.size + 2) u0 sen (.ref (W.heap.size + 1)) W.cur rfl rfl] at st
  obtain ⟨-, -, w3, w4, -, -, -⟩ := withThrown_facts e.platform W Zs text P1.m.cls kX
  have X3 := ((X.pushed (bytesOf Zs.cB (stringToUtf16 text))).pushed (stringAt Zs.cS Zs.kS Zs.fv Zs.fc (stringToUtf16 text) W.heap.size)).pushed (freshCell P1.m.cls kX)
  rw [← withString_eq] at X3
  have X4 := X3.noted hW'
  have ha : (W.heap.size + 2) < ((withThrown W Zs text P1.m.cls kX).setVm vm').heap.size := by show _ < (withThrown W Zs text P1.m.cls kX).heap.size; rw [w3]; omega
  have hcell : ((withThrown W Zs text P1.m.cls kX).setVm vm').heap[(W.heap.size + 2)]? = some (freshCell P1.m.cls kX) := w4
  have X5 := ((((X4.stored hcell T.fCause.slot (.ref (W.heap.size + 2))).storedAgain ha T.fStack.slot u0.v).storedAgain ha T.fSupp.slot sen.v).storedAgain ha T.fStack.slot u0.v).storedAgain ha T.fMsg.slot (.ref (W.heap.size + 1))
  obtain ⟨g₁, hfrM⟩ := X5.frames_eq
  have hU : ((((withThrown W Zs text P1.m.cls kX).setVm vm').setCell (W.heap.size + 2) (plainBareV T.toThrowableT (freshCell P1.m.cls kX) (W.heap.size + 2) u0 sen (.ref (W.heap.size + 1)))).setTop g).pushFrame (.throwing (W.heap.size + 2)) = (((withThrown W Zs text P1.m.cls kX).setVm vm').setCell (W.heap.size + 2) (plainBareV T.toThrowableT (freshCell P1.m.cls kX) (W.heap.size + 2) u0 sen (.ref (W.heap.size + 1)))).setFrames (.throwing (W.heap.size + 2) :: .java g :: below) := by
    rw [State.pushFrame, State.frames_setTop _ hfrM, State.setTop_of_frames _ hfrM, State.setFrames_setFrames]
  have b1 : (bytesOf Zs.cB (stringToUtf16 text)).slots.size = (stringBytes (stringToUtf16 text)).size := by
    rw [(Cell.writeAll_facts _ _).2.2]; simp [bytes0]
  have b2 : (stringAt Zs.cS Zs.kS Zs.fv Zs.fc (stringToUtf16 text) W.heap.size).slots.size = 4 := by simp [string0, Cell.setSlot, hn4]
  have b3 : (freshCell P1.m.cls kX).slots.size = 6 := by simp [hn6]
  rw [b1, b2, b3] at X5
  have e9 : slots + (stringBytes (stringToUtf16 text)).size + 4 + 6 = slots + ((stringBytes (stringToUtf16 text)).size + 4 + 6) := by omega
  rw [e9] at X5
  simp only [List.append_assoc, List.cons_append, List.nil_append] at X5
  refine ⟨((withThrown W Zs text P1.m.cls kX).setVm vm').setCell (W.heap.size + 2) (plainBareV T.toThrowableT (freshCell P1.m.cls kX) (W.heap.size + 2) u0 sen (.ref (W.heap.size + 1))), W.heap.size + 2, _, fun target ht => st _ (by rw [X.tail, ← hU]; exact ht),
    X5.forget (fun y hy => ?_), heapAt_setCell_self _ ha, hfound, rfl⟩
  simp only [List.mem_cons, List.not_mem_nil, or_false] at hy
  have hge : s.heap.size ≤ W.heap.size := X.same.2.1
  rcases hy with rfl | rfl | rfl | rfl | rfl <;> exact Nat.le_trans hge (Nat.le_add_right _ 2)
set_option maxHeartbeats 1000000 in
/-- the machine throws NullPointerException, no traces kept: from its note over the frame g to 'throwing' over the same frame (follows the proof of Stand.vmThrowsNpe, Shelf42/KT2.lean; throwsNpeColdBareVAt, Shelf42/NT91.lean, called) -/
theorem vx_npeAt {p : Program} {l : Launch} {e : Env} {R : Room} {s : State} {m₀ : MethodId} {args : Array Value} {below : List Frame} {meth : Method} {c : Code} {W : State} {locs : List Loc} {cells slots : Nat}
    (X : Stand p l e R s m₀ args below meth c W locs cells slots) (hexec : p.tables.exec = Jvm.exec) (htr : e.platform.stackTraces = false) {n : Nat}
    (h : ∀ a ∈ Bundle.npeArmAtoms n, a.before args s = true)
    (hlocs : ∀ x ∈ locs, ∀ cell, s.heap[x.base]? = some cell → cell.vm.isStatics = false)
    {g : JFrame} (hg : g.method = m₀) (hsize : g.locals.size = c.maxLocals)
    (hRframes : 7 < R.frames) (hRlocals : 2 * g.monitorRoom + (g.stack.map fun v => v.category).sum + 10240 ≤ R.locals)
    (hRcells : cells + 1 ≤ R.cells) (hRslots : slots + n ≤ R.slots) (hlocks : meth.locks = false) :
    ∃ (S : State) (q : Addr) (ce : Cell), (∀ target, Steps p.tables e below ((S.setTop g).pushFrame (.throwing q)) target → Steps p.tables e below ((W.setTop g).pushFrame (.throwNew "java/lang/NullPointerException" none none)) target) ∧
      Stand p l e R s m₀ args below meth c S locs (cells + 1) (slots + n) ∧ S.heap[q]? = some ce ∧ s.vm.findClass "java/lang/NullPointerException" = some ce.cls ∧ ce.vm = .none := by
  have howns : e.platform.frameOwnsMonitors = true := by rw [X.admits.platform]
  have hfin : e.platform.finalization = false := by rw [X.admits.platform]
  have hpl : e.platform.magicAccessors = ({} : Platform).magicAccessors := by rw [X.admits.platform]
  have hpl2 : e.platform.arrayCloneIsPublic = true := by rw [X.admits.platform]
  have a' : ∀ x, x ∈ Bundle.npeArmAtoms n → x.holds args s none s [] = true := fun x hx => h x hx
  obtain ⟨T, Z, L, LZ, Y⟩ := ThrowableC.of_atoms (args := args) howns hfin hpl (fun x hx => h x (by simp [Bundle.npeArmAtoms, hx]))
  obtain ⟨N, LN, hcN, hnNF, hordN, hffS⟩ := NpeC.of_atoms (args := args) hpl hpl2 L Y (fun x hx => h x (by simp [Bundle.npeArmAtoms, hx]))
  obtain ⟨P1, L1, hP1m, hP1s⟩ := PassC.of_atoms (args := args) (s := s) hpl (X := Bundle.nN) (Y := Bundle.rN) (by decide) (by decide) LibCode.NullPointerException.Init0.at_0 LibCode.NullPointerException.Init0.at_1 LibCode.NullPointerException.Init0.at_4 (fun x hx => h x (by simp [Bundle.npeArmAtoms, hx]))
  obtain ⟨PR, LR, hPRm, hPRs⟩ := PassC.of_atoms (args := args) (s := s) hpl (X := Bundle.rN) (Y := Bundle.eN) (by decide) (by decide) LibCode.RuntimeException.Init0.at_0 LibCode.RuntimeException.Init0.at_1 LibCode.RuntimeException.Init0.at_4 (fun x hx => h x (by simp [Bundle.npeArmAtoms, hx]))
  obtain ⟨PE, LEx, hPEm, hPEs⟩ := PassC.of_atoms (args := args) (s := s) hpl (X := Bundle.eN) (Y := Bundle.tN) (by decide) (by decide) LibCode.Exception.Init0.at_0 LibCode.Exception.Init0.at_1 LibCode.Exception.Init0.at_4 (fun x hx => h x (by simp [Bundle.npeArmAtoms, hx]))
  have hfound : s.vm.findClass Bundle.nN = some P1.m.cls := findClass_of_methodNamed hP1m
  have ecls : N.cN = P1.m.cls := Option.some.inj (hcN.symm.trans hfound)
  have hk : s.vm.classes[P1.m.cls]? = some N.kN := by rw [← ecls]; exact LN.cls
  have hinit := Cond.initialized_spec hfound hk (a' (.initialized Bundle.nN) (by simp [Bundle.npeArmAtoms]))
  have hctor : N.kN.findMethod "<init>" "()V" = some P1.m.idx := findMethod_of_methodNamed hP1m hk
  obtain ⟨c1, k1, hc1, hk1, -, -, -, hn⟩ := Cond.instantiable_spec (a' (.instantiable Bundle.nN n) (by simp [Bundle.npeArmAtoms]))
  cases Option.some.inj (hc1.symm.trans hfound)
  cases Option.some.inj (hk1.symm.trans hk)
  have hfsz : (freshCell P1.m.cls N.kN).slots.size = n := by simp [hn]
  have hlink1 : P1.sup = PR.m := Option.some.inj (hP1s.symm.trans hPRm)
  have hlinkR : PR.sup = PE.m := Option.some.inj (hPRs.symm.trans hPEm)
  have hlinkE : PE.sup = Z.m T.toThrowableT := Option.some.inj (hPEs.symm.trans Y.init0)
  have hLs : ∀ P, P ∈ [PR, PE] → P.Links0 e.platform s := fun P hP => by
    simp only [List.mem_cons, List.not_mem_nil, or_false] at hP
    rcases hP with rfl | rfl
    · exact LR
    · exact LEx
  have hsel0 : selectMethod e.platform s.vm P1.m.cls T.fill0 = .method T.fill0 := by
    obtain ⟨c2, r2, m2, q1, q2, q3, q4, -⟩ := Cond.selects_spec (a' (.selects Bundle.nN Bundle.tFill0 Bundle.tFill0) (by simp [Bundle.npeArmAtoms]))
    cases Option.some.inj (q1.symm.trans hfound)
    cases Option.some.inj (q2.symm.trans (State.methodFound?_of_named Y.fill0 (by decide)))
    cases Option.some.inj (q3.symm.trans Y.fill0)
    rw [Launch.admits_selectMethod X.admits]; exact q4
  have hselF : selectMethod e.platform s.vm P1.m.cls T.fill = .method N.fill := by
    obtain ⟨c2, r2, m2, q1, q2, q3, q4, -⟩ := Cond.selects_spec (a' (.selects Bundle.nN Bundle.tFill Bundle.nFill) (by simp [Bundle.npeArmAtoms]))
    cases Option.some.inj (q1.symm.trans hfound)
    cases Option.some.inj (q2.symm.trans (State.methodFound?_of_named Y.fill (by decide)))
    cases Option.some.inj (q3.symm.trans hnNF)
    rw [Launch.admits_selectMethod X.admits]; exact q4
  obtain ⟨cellS0, hcS0, hiss⟩ := Y.statics
  obtain ⟨u0, hu0⟩ := Cond.staticRefV Y.unassigned L.unassignedStatic L.statics hcS0 hiss (a' (.isRef (.static Bundle.tN "UNASSIGNED_STACK" Bundle.steD)) (by simp [Bundle.npeArmAtoms]))
  obtain ⟨sen, hsen⟩ := Cond.staticRefV Y.sentinel L.sentinelStatic L.statics hcS0 hiss (a' (.isRef (.static Bundle.tN "SUPPRESSED_SENTINEL" Bundle.listD)) (by simp [Bundle.npeArmAtoms]))
  obtain ⟨ci198, i198, fB, hk198, hg198, ha198, hsB, -, hnB, htB, hffB⟩ := Cond.ownField (t := .object "java/lang/Object") Y.found L.cls (by decide +kernel) (a' (.fieldLink Bundle.tN 198 Bundle.tN "backtrace" Bundle.objD) (by simp [Bundle.npeArmAtoms])) (a' (.lays Bundle.tN Bundle.tN "backtrace" Bundle.objD) (by simp [Bundle.npeArmAtoms])) e.platform hpl
  obtain ⟨cellS, hcS', heS, -, hkeep⟩ := X.same.2.2.2.2.2 T.aS cellS0 hcS0
  have hcellS : W.heap[T.aS]? = some cellS := hcS'
  have hout' : ∀ i, (⟨T.aS, i⟩ : Loc) ∉ locs := fun i hmem => by
    have := hlocs _ hmem cellS0 hcS0
    rw [hiss] at this; cases this
  have hknownS : cellS.vm ≠ .unknown := by
    rw [heS]; intro hu
    rw [show cellS0.vm = .unknown from hu] at hiss
    cases hiss
  have hvU : cellS.slots[T.fUnassigned.slot]? = some u0.v := by rw [hkeep _ (hout' _)]; exact hu0
  have hvSen : cellS.slots[T.fSentinel.slot]? = some sen.v := by rw [hkeep _ (hout' _)]; exact hsen
  obtain ⟨tyC, dC, hdC, hdnC⟩ := Cond.laysAt hfound hk Y.cause (a' (.lays Bundle.nN Bundle.tN "cause" "Ljava/lang/Throwable;") (by simp [Bundle.npeArmAtoms]))
  obtain ⟨tyS, dS, hdS, hdnS⟩ := Cond.laysAt hfound hk Y.stack (a' (.lays Bundle.nN Bundle.tN "stackTrace" Bundle.steD) (by simp [Bundle.npeArmAtoms]))
  obtain ⟨tyP, dP, hdP, hdnP⟩ := Cond.laysAt hfound hk Y.supp (a' (.lays Bundle.nN Bundle.tN "suppressedExceptions" Bundle.listD) (by simp [Bundle.npeArmAtoms]))
  obtain ⟨tyX, dX, hdX, hdnX⟩ := Cond.laysAt hfound hk hffS (a' (.lays Bundle.nN Bundle.nN "extendedMessageState" "I") (by simp [Bundle.npeArmAtoms, Bundle.npeAtoms]))
  obtain ⟨hnX, htX⟩ := State.fieldFound?_type hffS (t := .int) (by decide +kernel)
  have xC := Cond.laysApart hdC hdX hdnC hdnX (by rw [hnX, Y.causeName]; decide)
  have xS := Cond.laysApart hdS hdX hdnS hdnX (by rw [hnX, Y.stackName]; decide)
  have xP := Cond.laysApart hdP hdX hdnP hdnX (by rw [hnX, Y.suppName]; decide)
  have hv0 : (freshCell P1.m.cls N.kN).slots[N.fState.slot]? = some (.int 0) := by
    have := fresh_default (c := P1.m.cls) tyX
    rw [htX] at this; exact this
  obtain ⟨tyB, dB, hdB, hdnB⟩ := Cond.laysAt hfound hk hffB (a' (.lays Bundle.nN Bundle.tN "backtrace" Bundle.objD) (by simp [Bundle.npeArmAtoms]))
  have bC := Cond.laysApart hdB hdC hdnB hdnC (by rw [hnB, Y.causeName]; decide)
  have bS := Cond.laysApart hdB hdS hdnB hdnS (by rw [hnB, Y.stackName]; decide)
  have bP := Cond.laysApart hdB hdP hdnB hdnP (by rw [hnB, Y.suppName]; decide)
  have bX := Cond.laysApart hdB hdX hdnB hdnX (by rw [hnB, hnX]; decide)
  have hbk : ((npeCell N.toNpeT (preparedCellV T.toThrowableT (freshCell P1.m.cls N.kN) W.heap.size u0 sen) W.cur).withEntry W.cur).slots[fB.slot]? = some .null := by
    have := fresh_default (c := P1.m.cls) tyB
    rw [htB] at this
    simpa [npeCell, preparedCellV, Cell.setSlot, Cell.withEntry, Array.getElem?_setIfInBounds, bC, bS, bP, bX, bC.symm, bS.symm, bP.symm, bX.symm, defaultValue] using this
  have tkC := Takes.of_laid (v := .ref W.heap.size) hk hordN tyC (by rw [Y.causeType]; rfl)
  have tkS := Takes.of_laid (v := u0.v) hk hordN tyS (by rw [Y.stackType]; exact fits_refV_array _ u0)
  have tkP := Takes.of_laid (v := sen.v) hk hordN tyP (by rw [Y.suppType]; exact fits_refV_object _ sen)
  have tkX := Takes.of_laid (v := .int 1) hk hordN tyX (by rw [htX]; rfl)
  have hskip : SkipFacts T e.platform s (fun u => u) u0 ((npeCell N.toNpeT (preparedCellV T.toThrowableT (freshCell P1.m.cls N.kN) W.heap.size u0 sen) W.cur).withEntry W.cur) := ⟨{ ci198 := ci198, i198 := i198, fBack := fB }, ⟨hk198, hg198, ha198, hsB⟩, hbk, fun _ _ => rfl⟩
  obtain ⟨vm', X3, st, -⟩ := X.throwsNpeColdBareVAt hexec hg hsize T L Z LZ N LN P1 L1 [PR, PE] hLs hlink1 ⟨hlinkR, hlinkE, trivial⟩ hfound hk hinit hordN hctor hsel0 hselF hcellS hknownS hvU hvSen
    hv0 xC xS xP tkC tkS tkP tkX Y.objLocals hskip (fun _ _ hA hW _ hroom _ hrest => L.nativeOff p htr hA hW hroom hrest) (by simpa using hRframes) hRlocals (by simp) hRcells (by rw [hn]; exact hRslots)
  have hlt : W.heap.size < ((W.pushCell (freshCell P1.m.cls N.kN)).setVm vm').heap.size := by
    show W.heap.size < (W.pushCell (freshCell P1.m.cls N.kN)).heap.size
    rw [State.heap_size_pushCell]; omega
  rw [hfsz] at X3
  obtain ⟨g₁, hfrM⟩ := X3.frames_eq
  have hU : ((((W.pushCell (freshCell P1.m.cls N.kN)).setVm vm').setCell W.heap.size (npeBareV T.toThrowableT N.toNpeT (freshCell P1.m.cls N.kN) W.heap.size u0 sen)).setTop g).pushFrame (.throwing W.heap.size) = (((W.pushCell (freshCell P1.m.cls N.kN)).setVm vm').setCell W.heap.size (npeBareV T.toThrowableT N.toNpeT (freshCell P1.m.cls N.kN) W.heap.size u0 sen)).setFrames (.throwing W.heap.size :: .java g :: below) := by
    rw [State.pushFrame, State.frames_setTop _ hfrM, State.setTop_of_frames _ hfrM, State.setFrames_setFrames]
  refine ⟨_, W.heap.size, _, fun target ht => st.trans (by rw [← hU]; exact ht), X3.forget (fun y hy => ?_), heapAt_setCell_self _ hlt, hfound, rfl⟩
  simp only [List.mem_cons, List.not_mem_nil, or_false] at hy
  have hge : s.heap.size ≤ W.heap.size := X.same.2.1
  rcases hy with rfl | rfl | rfl | rfl | rfl <;> exact hge
/-- the words of a machine's NullPointerException, but the four that speak of the heap -/
def vx_atN (n : Nat) : List Cond := (Bundle.npeArmAtoms n).filter vx_no
/-- the words of a machine's throw with a message, but the four that speak of the heap -/
def vx_atM (X : String) (names : List String) : List Cond := (Bundle.messageArmAtoms X names).filter vx_no
section
variable {p : Program} {l : Launch} {e : Env} {R : Room} {s : State} {m : MethodId} {args : Array Value} {below : List Frame} {meth : Method} {c : Code} {H : Heap} {locs : List Loc} {cells slots : Nat}
/-- a frame seen from a rebased start, seen from the first start again -/
theorem vx_back9 {T S : State} {R' : Room} {k n : Nat} (X : Stand p l e R s m args below meth c T locs cells slots) (Y : Stand p l e R' ((T.setVm s.vm).setFrames (.invoking m args :: below)) m args below meth c T [] 0 0) (Z : Stand p l e R' ((T.setVm s.vm).setFrames (.invoking m args :: below)) m args below meth c S [] k n) :
    Stand p l e R s m args below meth c S locs (cells + k) (slots + n) := by
  have hW0 : s.WarmedH ((T.setVm s.vm).setFrames (.invoking m args :: below)).vm := State.WarmedH.refl s
  refine { admits := X.admits, cas := X.cas, clock := X.clock, frames := X.frames, room := X.room, hears := X.hears, method := X.method, code := X.code, here := Z.here, tail := Z.tail, warmed := State.WarmedH.trans hW0 Z.warmed, limits := Z.limits.trans (Y.limits.symm.trans X.limits), bytes := Z.bytes.trans (Y.bytes.symm.trans X.bytes), same := ?_ }
  obtain ⟨e1, e2⟩ := Z.same
  rw [State.setFrames_setFrames] at e1
  have h2 : (T.setVm s.vm).sameButNew (S.setVm s.vm) [] k n := ⟨e1, e2⟩
  have h3 := X.same.trans h2
  rw [List.append_nil] at h3
  exact h3
/-- from the machine's note that E is thrown here with this text -/
def vx_Note (p : Program) (l : Launch) (e : Env) (R : Room) (s : State) (m : MethodId) (args : Array Value) (below : List Frame) (meth : Method) (c : Code) (H : Heap) (locs : List Loc) (cells slots : Nat) (Q : State → Prop) (g : JFrame) (E text : String) : Prop :=
  ∀ T : State, T.heap = H → Stand p l e R s m args below meth c T locs cells slots → ∃ t, Steps p.tables e below ((T.setTop g).pushFrame (.throwNew E (some text) none)) t ∧ Q t
theorem vx_vm {pc : Nat} {ls : Array Slot} {rest : List Value} {Q : State → Prop} (hexec : p.tables.exec = Jvm.exec) (hl : l.stackTraces = false) {cls text : String} {names : List String} {nb : Nat} {A : Nat → Prop}
    (hcls : Bundle.fit cls = true) (hnames : ∀ n ∈ names, Bundle.fit n = true) (hsoe : (cls == "java/lang/StackOverflowError") = false) (hoom : (cls == "java/lang/OutOfMemoryError") = false)
    (hat : ∀ w ∈ vx_atM cls names, w.before args s = true) (hgood : ∀ w ∈ vx_atM cls names, vx_ot w = true)
    (hU : vx_Zq Bundle.tN "UNASSIGNED_STACK" Bundle.steD A s s.heap) (hN : vx_Zq Bundle.tN "SUPPRESSED_SENTINEL" Bundle.listD A s s.heap) (hS : va_S A s.heap H locs) (hsize : ls.size = c.maxLocals)
    (htext : (text == notModelled) = false) (hnb : (stringBytes (stringToUtf16 text)).size ≤ nb) (hnb1 : nb ≤ 1000)
    (hRframes : names.length + 4 < R.frames) (hRlocals : (rest.map fun v => v.category).sum + 10240 ≤ R.locals) (hshort : 13 * names.length + 55 ≤ 10240) (hRcells : cells + 3 ≤ R.cells) (hRslots : slots + (nb + 10) ≤ R.slots) (hlocks : meth.locks = false)
    (k : ∀ (H1 : Heap) (q9 : Addr) (ce : Cell), H.size ≤ H1.size → (∀ q : Nat, q < H.size → H1[q]? = H[q]?) → va_S A s.heap H1 locs → H1[q9]? = some ce → ce.vm = .none → s.vm.findClass cls = some ce.cls → vx_W p l e R s m args below meth c H1 locs (cells + 3) (slots + (nb + 10)) Q (F0 m pc ls rest) q9) :
    vx_Note p l e R s m args below meth c H locs cells slots Q (F0 m pc ls rest) cls text := by
  intro T hT X
  have htr : e.platform.stackTraces = false := (show e.platform.stackTraces = l.stackTraces by rw [X.admits.platform]).trans hl
  have Y := vx_rebase X (R' := { frames := R.frames, locals := R.locals, cells := 3, slots := nb + 10 }) (Nat.le_refl _) (Nat.le_refl _) hRcells hRslots
  have hhp : ((T.setVm s.vm).setFrames (.invoking m args :: below)).heap = H := hT
  have hW0 : s.WarmedH ((T.setVm s.vm).setFrames (.invoking m args :: below)).vm := State.WarmedH.refl s
  have hat' : ∀ w ∈ vx_atM cls names, w.before args ((T.setVm s.vm).setFrames (.invoking m args :: below)) = true := fun w hw => vx_ot_at hW0 rfl (hgood w hw) (hat w hw)
  have hU' : vx_Zq Bundle.tN "UNASSIGNED_STACK" Bundle.steD A ((T.setVm s.vm).setFrames (.invoking m args :: below)) ((T.setVm s.vm).setFrames (.invoking m args :: below)).heap := by rw [hhp]; exact vx_Zq.moved hW0.alike (hU.kept hS.2.1)
  have hN' : vx_Zq Bundle.tN "SUPPRESSED_SENTINEL" Bundle.listD A ((T.setVm s.vm).setFrames (.invoking m args :: below)) ((T.setVm s.vm).setFrames (.invoking m args :: below)).heap := by rw [hhp]; exact vx_Zq.moved hW0.alike (hN.kept hS.2.1)
  obtain ⟨S, q, ce, st, Z, hce, hcl', hv⟩ := vx_vmAt Y hexec htr (cls := cls) (names := names) (text := text) hcls hnames hsoe hoom (vx_own hat' (vx_isRefq hU'.1) (vx_isRefq hN'.1) hU'.2.word hN'.2.word) (fun x hx => nomatch hx) htext
    (by rw [Launch.admits_arrayLengthLimit X.admits]; omega) (by rw [Launch.admits_maxHeapBytes X.admits]; simp only [componentBytes]; omega)
    (g := F0 m pc ls rest) rfl hsize hRframes (by show 2 * 0 + (rest.map fun v => v.category).sum + 10240 ≤ R.locals; omega) hshort (by show 0 + 3 ≤ 3; omega) (by show 0 + (_ + 4 + 6) ≤ nb + 10; omega) hlocks
  obtain ⟨f1, f2⟩ := vx_frame Z.same
  have f1' : H.size ≤ S.heap.size := by rw [← hT]; exact f1
  have f2' : ∀ q : Nat, q < H.size → S.heap[q]? = H[q]? := fun q hq => by
    rw [← hT]
    exact f2 q (by rw [← hT] at hq; exact hq) (fun z hz => nomatch hz)
  have X5 := vx_back9 X Y Z
  have X6 : Stand p l e R s m args below meth c S locs (cells + 3) (slots + (nb + 10)) := { X5 with same := X5.same.mono (by omega) (by omega) }
  obtain ⟨t, a1, b1⟩ := k S.heap q ce f1' f2' ⟨Nat.le_trans hS.1 f1', fun q h1 h2 => (f2' q (Nat.lt_of_lt_of_le h1 hS.1)).trans (hS.2.1 q h1 h2), hS.2.2⟩ hce hv hcl' S rfl X6
  exact ⟨t, st t a1, b1⟩
/-- from the machine's note that NullPointerException is thrown here -/
def vx_NoteN (p : Program) (l : Launch) (e : Env) (R : Room) (s : State) (m : MethodId) (args : Array Value) (below : List Frame) (meth : Method) (c : Code) (H : Heap) (locs : List Loc) (cells slots : Nat) (Q : State → Prop) (g : JFrame) : Prop :=
  ∀ T : State, T.heap = H → Stand p l e R s m args below meth c T locs cells slots → ∃ t, Steps p.tables e below ((T.setTop g).pushFrame (.throwNew "java/lang/NullPointerException" none none)) t ∧ Q t
theorem vx_npe {pc : Nat} {ls : Array Slot} {rest : List Value} {Q : State → Prop} (hexec : p.tables.exec = Jvm.exec) (hl : l.stackTraces = false) {nb : Nat} {A : Nat → Prop}
    (hat : ∀ w ∈ vx_atN nb, w.before args s = true) (hgood : ∀ w ∈ vx_atN nb, vx_ot w = true)
    (hU : vx_Zq Bundle.tN "UNASSIGNED_STACK" Bundle.steD A s s.heap) (hN : vx_Zq Bundle.tN "SUPPRESSED_SENTINEL" Bundle.listD A s s.heap) (hS : va_S A s.heap H locs) (hsize : ls.size = c.maxLocals)
    (hRframes : 7 < R.frames) (hRlocals : (rest.map fun v => v.category).sum + 10240 ≤ R.locals) (hRcells : cells + 1 ≤ R.cells) (hRslots : slots + nb ≤ R.slots) (hlocks : meth.locks = false)
    (k : ∀ (H1 : Heap) (q9 : Addr) (ce : Cell), H.size ≤ H1.size → (∀ q : Nat, q < H.size → H1[q]? = H[q]?) → va_S A s.heap H1 locs → H1[q9]? = some ce → ce.vm = .none → s.vm.findClass "java/lang/NullPointerException" = some ce.cls → vx_W p l e R s m args below meth c H1 locs (cells + 1) (slots + nb) Q (F0 m pc ls rest) q9) :
    vx_NoteN p l e R s m args below meth c H locs cells slots Q (F0 m pc ls rest) := by
  intro T hT X
  have htr : e.platform.stackTraces = false := (show e.platform.stackTraces = l.stackTraces by rw [X.admits.platform]).trans hl
  have Y := vx_rebase X (R' := { frames := R.frames, locals := R.locals, cells := 1, slots := nb }) (Nat.le_refl _) (Nat.le_refl _) hRcells hRslots
  have hhp : ((T.setVm s.vm).setFrames (.invoking m args :: below)).heap = H := hT
  have hW0 : s.WarmedH ((T.setVm s.vm).setFrames (.invoking m args :: below)).vm := State.WarmedH.refl s
  have hat' : ∀ w ∈ vx_atN nb, w.before args ((T.setVm s.vm).setFrames (.invoking m args :: below)) = true := fun w hw => vx_ot_at hW0 rfl (hgood w hw) (hat w hw)
  have hU' : vx_Zq Bundle.tN "UNASSIGNED_STACK" Bundle.steD A ((T.setVm s.vm).setFrames (.invoking m args :: below)) ((T.setVm s.vm).setFrames (.invoking m args :: below)).heap := by rw [hhp]; exact vx_Zq.moved hW0.alike (hU.kept hS.2.1)
  have hN' : vx_Zq Bundle.tN "SUPPRESSED_SENTINEL" Bundle.listD A ((T.setVm s.vm).setFrames (.invoking m args :: below)) ((T.setVm s.vm).setFrames (.invoking m args :: below)).heap := by rw [hhp]; exact vx_Zq.moved hW0.alike (hN.kept hS.2.1)
  obtain ⟨S, q, ce, st, Z, hce, hcl', hv⟩ := vx_npeAt Y hexec htr (n := nb) (vx_own hat' (vx_isRefq hU'.1) (vx_isRefq hN'.1) hU'.2.word hN'.2.word) (fun x hx => nomatch hx)
    (g := F0 m pc ls rest) rfl hsize hRframes (by show 2 * 0 + (rest.map fun v => v.category).sum + 10240 ≤ R.locals; omega) (by show 0 + 1 ≤ 1; omega) (by show 0 + nb ≤ nb; omega) hlocks
  obtain ⟨f1, f2⟩ := vx_frame Z.same
  have f1' : H.size ≤ S.heap.size := by rw [← hT]; exact f1
  have f2' : ∀ q : Nat, q < H.size → S.heap[q]? = H[q]? := fun q hq => by
    rw [← hT]
    exact f2 q (by rw [← hT] at hq; exact hq) (fun z hz => nomatch hz)
  have X5 := vx_back9 X Y Z
  have X6 : Stand p l e R s m args below meth c S locs (cells + 1) (slots + nb) := { X5 with same := X5.same.mono (by omega) (by omega) }
  obtain ⟨t, a1, b1⟩ := k S.heap q ce f1' f2' ⟨Nat.le_trans hS.1 f1', fun q h1 h2 => (f2' q (Nat.lt_of_lt_of_le h1 hS.1)).trans (hS.2.1 q h1 h2), hS.2.2⟩ hce hv hcl' S rfl X6
  exact ⟨t, st t a1, b1⟩
variable {Q : State → Prop} {cc : ByteArray} {pc : Nat} {ls : Array Slot} {rest : List Value}
theorem vx_idivZ (hexec : p.tables.exec = Jvm.exec) (hb : c.code = cc) {a b : Int32} (h0 : b = 0) (d : decode cc pc = .ok (.idiv, 1)) (k : vx_Note p l e R s m args below meth c H locs cells slots Q (F0 m pc ls rest) "java/lang/ArithmeticException" "/ by zero") :
    W p l e R s m args below meth c H locs cells slots Q (F0 m pc ls (.int b :: .int a :: rest)) := by
  intro T hT X
  obtain ⟨t, st, q⟩ := k T hT X
  exact ⟨t, X.idivZero hexec (g := F0 m pc ls (.int b :: .int a :: rest)) rfl (a := a) (rest := rest) (by rw [h0]) (by rw [hb]; exact d) t st, q⟩
theorem vx_iremZ (hexec : p.tables.exec = Jvm.exec) (hb : c.code = cc) {a b : Int32} (h0 : b = 0) (d : decode cc pc = .ok (.irem, 1)) (k : vx_Note p l e R s m args below meth c H locs cells slots Q (F0 m pc ls rest) "java/lang/ArithmeticException" "/ by zero") :
    W p l e R s m args below meth c H locs cells slots Q (F0 m pc ls (.int b :: .int a :: rest)) := by
  intro T hT X
  obtain ⟨t, st, q⟩ := k T hT X
  exact ⟨t, X.iremZero hexec (g := F0 m pc ls (.int b :: .int a :: rest)) rfl (a := a) (rest := rest) (by rw [h0]) (by rw [hb]; exact d) t st, q⟩
theorem vx_ldivZ (hexec : p.tables.exec = Jvm.exec) (hb : c.code = cc) {a b : Int64} (h0 : b = 0) (d : decode cc pc = .ok (.ldiv, 1)) (k : vx_Note p l e R s m args below meth c H locs cells slots Q (F0 m pc ls rest) "java/lang/ArithmeticException" "/ by zero") :
    W p l e R s m args below meth c H locs cells slots Q (F0 m pc ls (.long b :: .long a :: rest)) := by
  intro T hT X
  obtain ⟨t, st, q⟩ := k T hT X
  exact ⟨t, X.ldivZero hexec (g := F0 m pc ls (.long b :: .long a :: rest)) rfl (a := a) (rest := rest) (by rw [h0]) (by rw [hb]; exact d) t st, q⟩
theorem vx_lremZ (hexec : p.tables.exec = Jvm.exec) (hb : c.code = cc) {a b : Int64} (h0 : b = 0) (d : decode cc pc = .ok (.lrem, 1)) (k : vx_Note p l e R s m args below meth c H locs cells slots Q (F0 m pc ls rest) "java/lang/ArithmeticException" "/ by zero") :
    W p l e R s m args below meth c H locs cells slots Q (F0 m pc ls (.long b :: .long a :: rest)) := by
  intro T hT X
  obtain ⟨t, st, q⟩ := k T hT X
  exact ⟨t, X.lremZero hexec (g := F0 m pc ls (.long b :: .long a :: rest)) rfl (a := a) (rest := rest) (by rw [h0]) (by rw [hb]; exact d) t st, q⟩
theorem vx_ialdZ {D : va_G} {cl : List vw_C} {ws : va_W} {tys : List (ClassId × FieldType)} {a : Nat} (hexec : p.tables.exec = Jvm.exec) (hb : c.code = cc) (hK : va_K D cl tys s) (hP : va_P D cl ws H) (q0 t0 : Nat) {cA : ClassId} {n : Nat} {f : Nat → Int32} (ha : ws[q0]? = some (a, .inl (cA, n, .inl f))) (ht : tys[t0]? = some (cA, .int)) {i : Int32} (hout : ¬ vp_in i n) (hdg : decode cc pc = .ok (.iaload, 1))
    (k : ∀ tx : String, tx = (toString "Index " ++ toString i ++ toString " out of bounds for length " ++ toString n : String) → vx_Note p l e R s m args below meth c H locs cells slots Q (F0 m pc ls rest) "java/lang/ArrayIndexOutOfBoundsException" tx) : W p l e R s m args below meth c H locs cells slots Q (F0 m pc ls (.int i :: .ref a :: rest)) := by
  intro T hT X
  obtain ⟨t, st, q⟩ := k _ rfl T hT X
  refine ⟨t, ?_, q⟩
  have h1 := X.ialoadOut hexec (by rw [hT]; exact hP q0 _ ha) ((hK.2 t0 _ ht).1 n (fun j => .int (f j))) (j := i) (by show (i < 0 ∨ (arrV _ _ _).slots.size ≤ _); rw [arrV_size]; exact Classical.byContradiction hout) (g := F0 m pc ls (.int i :: .ref a :: rest)) rfl (rest := rest) rfl (by rw [hb]; exact hdg) t
  simp only [arrV_size] at h1
  exact h1 st
theorem vx_iastZ {D : va_G} {cl : List vw_C} {ws : va_W} {tys : List (ClassId × FieldType)} {a : Nat} (hexec : p.tables.exec = Jvm.exec) (hb : c.code = cc) (hK : va_K D cl tys s) (hP : va_P D cl ws H) (q0 t0 : Nat) {cA : ClassId} {n : Nat} {f : Nat → Int32} (ha : ws[q0]? = some (a, .inl (cA, n, .inl f))) (ht : tys[t0]? = some (cA, .int)) {i : Int32} {x : Int32} (hout : ¬ vp_in i n) (hdg : decode cc pc = .ok (.iastore, 1))
    (k : ∀ tx : String, tx = (toString "Index " ++ toString i ++ toString " out of bounds for length " ++ toString n : String) → vx_Note p l e R s m args below meth c H locs cells slots Q (F0 m pc ls rest) "java/lang/ArrayIndexOutOfBoundsException" tx) : W p l e R s m args below meth c H locs cells slots Q (F0 m pc ls (.int x :: .int i :: .ref a :: rest)) := by
  intro T hT X
  obtain ⟨t, st, q⟩ := k _ rfl T hT X
  refine ⟨t, ?_, q⟩
  have h1 := X.iastoreOut hexec (by rw [hT]; exact hP q0 _ ha) ((hK.2 t0 _ ht).1 n (fun j => .int (f j))) (j := i) (by show (i < 0 ∨ (arrV _ _ _).slots.size ≤ _); rw [arrV_size]; exact Classical.byContradiction hout) (g := F0 m pc ls (.int x :: .int i :: .ref a :: rest)) rfl (rest := rest) rfl (by rw [hb]; exact hdg) t
  simp only [arrV_size] at h1
  exact h1 st
theorem vx_baldZ {D : va_G} {cl : List vw_C} {ws : va_W} {tys : List (ClassId × FieldType)} {a : Nat} (hexec : p.tables.exec = Jvm.exec) (hb : c.code = cc) (hK : va_K D cl tys s) (hP : va_P D cl ws H) (q0 t0 : Nat) {cA : ClassId} {n : Nat} {f : Nat → Int32} (ha : ws[q0]? = some (a, .inl (cA, n, .inl f))) (ht : tys[t0]? = some (cA, .byte)) {i : Int32} (hout : ¬ vp_in i n) (hdg : decode cc pc = .ok (.baload, 1))
    (k : ∀ tx : String, tx = (toString "Index " ++ toString i ++ toString " out of bounds for length " ++ toString n : String) → vx_Note p l e R s m args below meth c H locs cells slots Q (F0 m pc ls rest) "java/lang/ArrayIndexOutOfBoundsException" tx) : W p l e R s m args below meth c H locs cells slots Q (F0 m pc ls (.int i :: .ref a :: rest)) := by
  intro T hT X
  obtain ⟨t, st, q⟩ := k _ rfl T hT X
  refine ⟨t, ?_, q⟩
  have h1 := X.baloadOut hexec (by rw [hT]; exact hP q0 _ ha) ((hK.2 t0 _ ht).1 n (fun j => .int (f j))) (j := i) (by show (i < 0 ∨ (arrV _ _ _).slots.size ≤ _); rw [arrV_size]; exact Classical.byContradiction hout) (g := F0 m pc ls (.int i :: .ref a :: rest)) rfl (rest := rest) rfl (by rw [hb]; exact hdg) t
  simp only [arrV_size] at h1
  exact h1 st
theorem vx_bastZ {D : va_G} {cl : List vw_C} {ws : va_W} {tys : List (ClassId × FieldType)} {a : Nat} (hexec : p.tables.exec = Jvm.exec) (hb : c.code = cc) (hK : va_K D cl tys s) (hP : va_P D cl ws H) (q0 t0 : Nat) {cA : ClassId} {n : Nat} {f : Nat → Int32} (ha : ws[q0]? = some (a, .inl (cA, n, .inl f))) (ht : tys[t0]? = some (cA, .byte)) {i : Int32} {x : Int32} (hout : ¬ vp_in i n) (hdg : decode cc pc = .ok (.bastore, 1))
    (k : ∀ tx : String, tx = (toString "Index " ++ toString i ++ toString " out of bounds for length " ++ toString n : String) → vx_Note p l e R s m args below meth c H locs cells slots Q (F0 m pc ls rest) "java/lang/ArrayIndexOutOfBoundsException" tx) : W p l e R s m args below meth c H locs cells slots Q (F0 m pc ls (.int x :: .int i :: .ref a :: rest)) := by
  intro T hT X
  obtain ⟨t, st, q⟩ := k _ rfl T hT X
  refine ⟨t, ?_, q⟩
  have h1 := X.bastoreOut hexec (by rw [hT]; exact hP q0 _ ha) ((hK.2 t0 _ ht).1 n (fun j => .int (f j))) (j := i) (by show (i < 0 ∨ (arrV _ _ _).slots.size ≤ _); rw [arrV_size]; exact Classical.byContradiction hout) (g := F0 m pc ls (.int x :: .int i :: .ref a :: rest)) rfl (rest := rest) rfl (by rw [hb]; exact hdg) t
  simp only [arrV_size] at h1
  exact h1 st
theorem vx_zaldZ {D : va_G} {cl : List vw_C} {ws : va_W} {tys : List (ClassId × FieldType)} {a : Nat} (hexec : p.tables.exec = Jvm.exec) (hb : c.code = cc) (hK : va_K D cl tys s) (hP : va_P D cl ws H) (q0 t0 : Nat) {cA : ClassId} {n : Nat} {f : Nat → Int32} (ha : ws[q0]? = some (a, .inl (cA, n, .inl f))) (ht : tys[t0]? = some (cA, .boolean)) {i : Int32} (hout : ¬ vp_in i n) (hdg : decode cc pc = .ok (.baload, 1))
    (k : ∀ tx : String, tx = (toString "Index " ++ toString i ++ toString " out of bounds for length " ++ toString n : String) → vx_Note p l e R s m args below meth c H locs cells slots Q (F0 m pc ls rest) "java/lang/ArrayIndexOutOfBoundsException" tx) : W p l e R s m args below meth c H locs cells slots Q (F0 m pc ls (.int i :: .ref a :: rest)) := by
  intro T hT X
  obtain ⟨t, st, q⟩ := k _ rfl T hT X
  refine ⟨t, ?_, q⟩
  have h1 := X.baloadOut hexec (by rw [hT]; exact hP q0 _ ha) ((hK.2 t0 _ ht).1 n (fun j => .int (f j))) (j := i) (by show (i < 0 ∨ (arrV _ _ _).slots.size ≤ _); rw [arrV_size]; exact Classical.byContradiction hout) (g := F0 m pc ls (.int i :: .ref a :: rest)) rfl (rest := rest) rfl (by rw [hb]; exact hdg) t
  simp only [arrV_size] at h1
  exact h1 st
theorem vx_zastZ {D : va_G} {cl : List vw_C} {ws : va_W} {tys : List (ClassId × FieldType)} {a : Nat} (hexec : p.tables.exec = Jvm.exec) (hb : c.code = cc) (hK : va_K D cl tys s) (hP : va_P D cl ws H) (q0 t0 : Nat) {cA : ClassId} {n : Nat} {f : Nat → Int32} (ha : ws[q0]? = some (a, .inl (cA, n, .inl f))) (ht : tys[t0]? = some (cA, .boolean)) {i : Int32} {x : Int32} (hout : ¬ vp_in i n) (hdg : decode cc pc = .ok (.bastore, 1))
    (k : ∀ tx : String, tx = (toString "Index " ++ toString i ++ toString " out of bounds for length " ++ toString n : String) → vx_Note p l e R s m args below meth c H locs cells slots Q (F0 m pc ls rest) "java/lang/ArrayIndexOutOfBoundsException" tx) : W p l e R s m args below meth c H locs cells slots Q (F0 m pc ls (.int x :: .int i :: .ref a :: rest)) := by
  intro T hT X
  obtain ⟨t, st, q⟩ := k _ rfl T hT X
  refine ⟨t, ?_, q⟩
  have h1 := X.bastoreOut hexec (by rw [hT]; exact hP q0 _ ha) ((hK.2 t0 _ ht).1 n (fun j => .int (f j))) (j := i) (by show (i < 0 ∨ (arrV _ _ _).slots.size ≤ _); rw [arrV_size]; exact Classical.byContradiction hout) (g := F0 m pc ls (.int x :: .int i :: .ref a :: rest)) rfl (rest := rest) rfl (by rw [hb]; exact hdg) t
  simp only [arrV_size] at h1
  exact h1 st
theorem vx_caldZ {D : va_G} {cl : List vw_C} {ws : va_W} {tys : List (ClassId × FieldType)} {a : Nat} (hexec : p.tables.exec = Jvm.exec) (hb : c.code = cc) (hK : va_K D cl tys s) (hP : va_P D cl ws H) (q0 t0 : Nat) {cA : ClassId} {n : Nat} {f : Nat → Int32} (ha : ws[q0]? = some (a, .inl (cA, n, .inl f))) (ht : tys[t0]? = some (cA, .char)) {i : Int32} (hout : ¬ vp_in i n) (hdg : decode cc pc = .ok (.caload, 1))
    (k : ∀ tx : String, tx = (toString "Index " ++ toString i ++ toString " out of bounds for length " ++ toString n : String) → vx_Note p l e R s m args below meth c H locs cells slots Q (F0 m pc ls rest) "java/lang/ArrayIndexOutOfBoundsException" tx) : W p l e R s m args below meth c H locs cells slots Q (F0 m pc ls (.int i :: .ref a :: rest)) := by
  intro T hT X
  obtain ⟨t, st, q⟩ := k _ rfl T hT X
  refine ⟨t, ?_, q⟩
  have h1 := X.caloadOut hexec (by rw [hT]; exact hP q0 _ ha) ((hK.2 t0 _ ht).1 n (fun j => .int (f j))) (j := i) (by show (i < 0 ∨ (arrV _ _ _).slots.size ≤ _); rw [arrV_size]; exact Classical.byContradiction hout) (g := F0 m pc ls (.int i :: .ref a :: rest)) rfl (rest := rest) rfl (by rw [hb]; exact hdg) t
  simp only [arrV_size] at h1
  exact h1 st
theorem vx_castZ {D : va_G} {cl : List vw_C} {ws : va_W} {tys : List (ClassId × FieldType)} {a : Nat} (hexec : p.tables.exec = Jvm.exec) (hb : c.code = cc) (hK : va_K D cl tys s) (hP : va_P D cl ws H) (q0 t0 : Nat) {cA : ClassId} {n : Nat} {f : Nat → Int32} (ha : ws[q0]? = some (a, .inl (cA, n, .inl f))) (ht : tys[t0]? = some (cA, .char)) {i : Int32} {x : Int32} (hout : ¬ vp_in i n) (hdg : decode cc pc = .ok (.castore, 1))
    (k : ∀ tx : String, tx = (toString "Index " ++ toString i ++ toString " out of bounds for length " ++ toString n : String) → vx_Note p l e R s m args below meth c H locs cells slots Q (F0 m pc ls rest) "java/lang/ArrayIndexOutOfBoundsException" tx) : W p l e R s m args below meth c H locs cells slots Q (F0 m pc ls (.int x :: .int i :: .ref a :: rest)) := by
  intro T hT X
  obtain ⟨t, st, q⟩ := k _ rfl T hT X
  refine ⟨t, ?_, q⟩
  have h1 := X.castoreOut hexec (by rw [hT]; exact hP q0 _ ha) ((hK.2 t0 _ ht).1 n (fun j => .int (f j))) (j := i) (by show (i < 0 ∨ (arrV _ _ _).slots.size ≤ _); rw [arrV_size]; exact Classical.byContradiction hout) (g := F0 m pc ls (.int x :: .int i :: .ref a :: rest)) rfl (rest := rest) rfl (by rw [hb]; exact hdg) t
  simp only [arrV_size] at h1
  exact h1 st
theorem vx_saldZ {D : va_G} {cl : List vw_C} {ws : va_W} {tys : List (ClassId × FieldType)} {a : Nat} (hexec : p.tables.exec = Jvm.exec) (hb : c.code = cc) (hK : va_K D cl tys s) (hP : va_P D cl ws H) (q0 t0 : Nat) {cA : ClassId} {n : Nat} {f : Nat → Int32} (ha : ws[q0]? = some (a, .inl (cA, n, .inl f))) (ht : tys[t0]? = some (cA, .short)) {i : Int32} (hout : ¬ vp_in i n) (hdg : decode cc pc = .ok (.saload, 1))
    (k : ∀ tx : String, tx = (toString "Index " ++ toString i ++ toString " out of bounds for length " ++ toString n : String) → vx_Note p l e R s m args below meth c H locs cells slots Q (F0 m pc ls rest) "java/lang/ArrayIndexOutOfBoundsException" tx) : W p l e R s m args below meth c H locs cells slots Q (F0 m pc ls (.int i :: .ref a :: rest)) := by
  intro T hT X
  obtain ⟨t, st, q⟩ := k _ rfl T hT X
  refine ⟨t, ?_, q⟩
  have h1 := X.saloadOut hexec (by rw [hT]; exact hP q0 _ ha) ((hK.2 t0 _ ht).1 n (fun j => .int (f j))) (j := i) (by show (i < 0 ∨ (arrV _ _ _).slots.size ≤ _); rw [arrV_size]; exact Classical.byContradiction hout) (g := F0 m pc ls (.int i :: .ref a :: rest)) rfl (rest := rest) rfl (by rw [hb]; exact hdg) t
  simp only [arrV_size] at h1
  exact h1 st
theorem vx_sastZ {D : va_G} {cl : List vw_C} {ws : va_W} {tys : List (ClassId × FieldType)} {a : Nat} (hexec : p.tables.exec = Jvm.exec) (hb : c.code = cc) (hK : va_K D cl tys s) (hP : va_P D cl ws H) (q0 t0 : Nat) {cA : ClassId} {n : Nat} {f : Nat → Int32} (ha : ws[q0]? = some (a, .inl (cA, n, .inl f))) (ht : tys[t0]? = some (cA, .short)) {i : Int32} {x : Int32} (hout : ¬ vp_in i n) (hdg : decode cc pc = .ok (.sastore, 1))
    (k : ∀ tx : String, tx = (toString "Index " ++ toString i ++ toString " out of bounds for length " ++ toString n : String) → vx_Note p l e R s m args below meth c H locs cells slots Q (F0 m pc ls rest) "java/lang/ArrayIndexOutOfBoundsException" tx) : W p l e R s m args below meth c H locs cells slots Q (F0 m pc ls (.int x :: .int i :: .ref a :: rest)) := by
  intro T hT X
  obtain ⟨t, st, q⟩ := k _ rfl T hT X
  refine ⟨t, ?_, q⟩
  have h1 := X.sastoreOut hexec (by rw [hT]; exact hP q0 _ ha) ((hK.2 t0 _ ht).1 n (fun j => .int (f j))) (j := i) (by show (i < 0 ∨ (arrV _ _ _).slots.size ≤ _); rw [arrV_size]; exact Classical.byContradiction hout) (g := F0 m pc ls (.int x :: .int i :: .ref a :: rest)) rfl (rest := rest) rfl (by rw [hb]; exact hdg) t
  simp only [arrV_size] at h1
  exact h1 st
theorem vx_laldZ {D : va_G} {cl : List vw_C} {ws : va_W} {tys : List (ClassId × FieldType)} {a : Nat} (hexec : p.tables.exec = Jvm.exec) (hb : c.code = cc) (hK : va_K D cl tys s) (hP : va_P D cl ws H) (q0 t0 : Nat) {cA : ClassId} {n : Nat} {f : Nat → Int64} (ha : ws[q0]? = some (a, .inl (cA, n, .inr (.inl f)))) (ht : tys[t0]? = some (cA, .long)) {i : Int32} (hout : ¬ vp_in i n) (hdg : decode cc pc = .ok (.laload, 1))
    (k : ∀ tx : String, tx = (toString "Index " ++ toString i ++ toString " out of bounds for length " ++ toString n : String) → vx_Note p l e R s m args below meth c H locs cells slots Q (F0 m pc ls rest) "java/lang/ArrayIndexOutOfBoundsException" tx) : W p l e R s m args below meth c H locs cells slots Q (F0 m pc ls (.int i :: .ref a :: rest)) := by
  intro T hT X
  obtain ⟨t, st, q⟩ := k _ rfl T hT X
  refine ⟨t, ?_, q⟩
  have h1 := X.laloadOut hexec (by rw [hT]; exact hP q0 _ ha) ((hK.2 t0 _ ht).1 n (fun j => .long (f j))) (j := i) (by show (i < 0 ∨ (arrV _ _ _).slots.size ≤ _); rw [arrV_size]; exact Classical.byContradiction hout) (g := F0 m pc ls (.int i :: .ref a :: rest)) rfl (rest := rest) rfl (by rw [hb]; exact hdg) t
  simp only [arrV_size] at h1
  exact h1 st
theorem vx_lastZ {D : va_G} {cl : List vw_C} {ws : va_W} {tys : List (ClassId × FieldType)} {a : Nat} (hexec : p.tables.exec = Jvm.exec) (hb : c.code = cc) (hK : va_K D cl tys s) (hP : va_P D cl ws H) (q0 t0 : Nat) {cA : ClassId} {n : Nat} {f : Nat → Int64} (ha : ws[q0]? = some (a, .inl (cA, n, .inr (.inl f)))) (ht : tys[t0]? = some (cA, .long)) {i : Int32} {x : Int64} (hout : ¬ vp_in i n) (hdg : decode cc pc = .ok (.lastore, 1))
    (k : ∀ tx : String, tx = (toString "Index " ++ toString i ++ toString " out of bounds for length " ++ toString n : String) → vx_Note p l e R s m args below meth c H locs cells slots Q (F0 m pc ls rest) "java/lang/ArrayIndexOutOfBoundsException" tx) : W p l e R s m args below meth c H locs cells slots Q (F0 m pc ls (.long x :: .int i :: .ref a :: rest)) := by
  intro T hT X
  obtain ⟨t, st, q⟩ := k _ rfl T hT X
  refine ⟨t, ?_, q⟩
  have h1 := X.lastoreOut hexec (by rw [hT]; exact hP q0 _ ha) ((hK.2 t0 _ ht).1 n (fun j => .long (f j))) (j := i) (by show (i < 0 ∨ (arrV _ _ _).slots.size ≤ _); rw [arrV_size]; exact Classical.byContradiction hout) (g := F0 m pc ls (.long x :: .int i :: .ref a :: rest)) rfl (rest := rest) rfl (by rw [hb]; exact hdg) t
  simp only [arrV_size] at h1
  exact h1 st
theorem vx_faldZ {D : va_G} {cl : List vw_C} {ws : va_W} {tys : List (ClassId × FieldType)} {a : Nat} (hexec : p.tables.exec = Jvm.exec) (hb : c.code = cc) (hK : va_K D cl tys s) (hP : va_P D cl ws H) (q0 t0 : Nat) {cA : ClassId} {n : Nat} {f : Nat → UInt32} (ha : ws[q0]? = some (a, .inl (cA, n, .inr (.inr (.inl f))))) (ht : tys[t0]? = some (cA, .float)) {i : Int32} (hout : ¬ vp_in i n) (hdg : decode cc pc = .ok (.faload, 1))
    (k : ∀ tx : String, tx = (toString "Index " ++ toString i ++ toString " out of bounds for length " ++ toString n : String) → vx_Note p l e R s m args below meth c H locs cells slots Q (F0 m pc ls rest) "java/lang/ArrayIndexOutOfBoundsException" tx) : W p l e R s m args below meth c H locs cells slots Q (F0 m pc ls (.int i :: .ref a :: rest)) := by
  intro T hT X
  obtain ⟨t, st, q⟩ := k _ rfl T hT X
  refine ⟨t, ?_, q⟩
  have h1 := X.faloadOut hexec (by rw [hT]; exact hP q0 _ ha) ((hK.2 t0 _ ht).1 n (fun j => .float (f j))) (j := i) (by show (i < 0 ∨ (arrV _ _ _).slots.size ≤ _); rw [arrV_size]; exact Classical.byContradiction hout) (g := F0 m pc ls (.int i :: .ref a :: rest)) rfl (rest := rest) rfl (by rw [hb]; exact hdg) t
  simp only [arrV_size] at h1
  exact h1 st
theorem vx_fastZ {D : va_G} {cl : List vw_C} {ws : va_W} {tys : List (ClassId × FieldType)} {a : Nat} (hexec : p.tables.exec = Jvm.exec) (hb : c.code = cc) (hK : va_K D cl tys s) (hP : va_P D cl ws H) (q0 t0 : Nat) {cA : ClassId} {n : Nat} {f : Nat → UInt32} (ha : ws[q0]? = some (a, .inl (cA, n, .inr (.inr (.inl f))))) (ht : tys[t0]? = some (cA, .float)) {i : Int32} {x : UInt32} (hout : ¬ vp_in i n) (hdg : decode cc pc = .ok (.fastore, 1))
    (k : ∀ tx : String, tx = (toString "Index " ++ toString i ++ toString " out of bounds for length " ++ toString n : String) → vx_Note p l e R s m args below meth c H locs cells slots Q (F0 m pc ls rest) "java/lang/ArrayIndexOutOfBoundsException" tx) : W p l e R s m args below meth c H locs cells slots Q (F0 m pc ls (.float x :: .int i :: .ref a :: rest)) := by
  intro T hT X
  obtain ⟨t, st, q⟩ := k _ rfl T hT X
  refine ⟨t, ?_, q⟩
  have h1 := X.fastoreOut hexec (by rw [hT]; exact hP q0 _ ha) ((hK.2 t0 _ ht).1 n (fun j => .float (f j))) (j := i) (by show (i < 0 ∨ (arrV _ _ _).slots.size ≤ _); rw [arrV_size]; exact Classical.byContradiction hout) (g := F0 m pc ls (.float x :: .int i :: .ref a :: rest)) rfl (rest := rest) rfl (by rw [hb]; exact hdg) t
  simp only [arrV_size] at h1
  exact h1 st
theorem vx_daldZ {D : va_G} {cl : List vw_C} {ws : va_W} {tys : List (ClassId × FieldType)} {a : Nat} (hexec : p.tables.exec = Jvm.exec) (hb : c.code = cc) (hK : va_K D cl tys s) (hP : va_P D cl ws H) (q0 t0 : Nat) {cA : ClassId} {n : Nat} {f : Nat → UInt64} (ha : ws[q0]? = some (a, .inl (cA, n, .inr (.inr (.inr (.inl f)))))) (ht : tys[t0]? = some (cA, .double)) {i : Int32} (hout : ¬ vp_in i n) (hdg : decode cc pc = .ok (.daload, 1))
    (k : ∀ tx : String, tx = (toString "Index " ++ toString i ++ toString " out of bounds for length " ++ toString n : String) → vx_Note p l e R s m args below meth c H locs cells slots Q (F0 m pc ls rest) "java/lang/ArrayIndexOutOfBoundsException" tx) : W p l e R s m args below meth c H locs cells slots Q (F0 m pc ls (.int i :: .ref a :: rest)) := by
  intro T hT X
  obtain ⟨t, st, q⟩ := k _ rfl T hT X
  refine ⟨t, ?_, q⟩
  have h1 := X.daloadOut hexec (by rw [hT]; exact hP q0 _ ha) ((hK.2 t0 _ ht).1 n (fun j => .double (f j))) (j := i) (by show (i < 0 ∨ (arrV _ _ _).slots.size ≤ _); rw [arrV_size]; exact Classical.byContradiction hout) (g := F0 m pc ls (.int i :: .ref a :: rest)) rfl (rest := rest) rfl (by rw [hb]; exact hdg) t
  simp only [arrV_size] at h1
  exact h1 st
theorem vx_dastZ {D : va_G} {cl : List vw_C} {ws : va_W} {tys : List (ClassId × FieldType)} {a : Nat} (hexec : p.tables.exec = Jvm.exec) (hb : c.code = cc) (hK : va_K D cl tys s) (hP : va_P D cl ws H) (q0 t0 : Nat) {cA : ClassId} {n : Nat} {f : Nat → UInt64} (ha : ws[q0]? = some (a, .inl (cA, n, .inr (.inr (.inr (.inl f)))))) (ht : tys[t0]? = some (cA, .double)) {i : Int32} {x : UInt64} (hout : ¬ vp_in i n) (hdg : decode cc pc = .ok (.dastore, 1))
    (k : ∀ tx : String, tx = (toString "Index " ++ toString i ++ toString " out of bounds for length " ++ toString n : String) → vx_Note p l e R s m args below meth c H locs cells slots Q (F0 m pc ls rest) "java/lang/ArrayIndexOutOfBoundsException" tx) : W p l e R s m args below meth c H locs cells slots Q (F0 m pc ls (.double x :: .int i :: .ref a :: rest)) := by
  intro T hT X
  obtain ⟨t, st, q⟩ := k _ rfl T hT X
  refine ⟨t, ?_, q⟩
  have h1 := X.dastoreOut hexec (by rw [hT]; exact hP q0 _ ha) ((hK.2 t0 _ ht).1 n (fun j => .double (f j))) (j := i) (by show (i < 0 ∨ (arrV _ _ _).slots.size ≤ _); rw [arrV_size]; exact Classical.byContradiction hout) (g := F0 m pc ls (.double x :: .int i :: .ref a :: rest)) rfl (rest := rest) rfl (by rw [hb]; exact hdg) t
  simp only [arrV_size] at h1
  exact h1 st
theorem vx_arraylengthN (hexec : p.tables.exec = Jvm.exec) (hb : c.code = cc) (hdg : decode cc pc = .ok (.arraylength, 1)) (k : vx_NoteN p l e R s m args below meth c H locs cells slots Q (F0 m pc ls rest)) : W p l e R s m args below meth c H locs cells slots Q (F0 m pc ls (.null :: rest)) := by
  intro T hT X
  obtain ⟨t, st, q⟩ := k T hT X
  exact ⟨t, X.arraylengthNull hexec (g := F0 m pc ls (.null :: rest)) rfl (rest := rest) rfl (by rw [hb]; exact hdg) t st, q⟩
theorem vx_ialoadN (hexec : p.tables.exec = Jvm.exec) (hb : c.code = cc) {i : Int32} (hdg : decode cc pc = .ok (.iaload, 1)) (k : vx_NoteN p l e R s m args below meth c H locs cells slots Q (F0 m pc ls rest)) : W p l e R s m args below meth c H locs cells slots Q (F0 m pc ls (.int i :: .null :: rest)) := by
  intro T hT X
  obtain ⟨t, st, q⟩ := k T hT X
  exact ⟨t, X.ialoadNull hexec (g := F0 m pc ls (.int i :: .null :: rest)) rfl (rest := rest) rfl (by rw [hb]; exact hdg) t st, q⟩
theorem vx_laloadN (hexec : p.tables.exec = Jvm.exec) (hb : c.code = cc) {i : Int32} (hdg : decode cc pc = .ok (.laload, 1)) (k : vx_NoteN p l e R s m args below meth c H locs cells slots Q (F0 m pc ls rest)) : W p l e R s m args below meth c H locs cells slots Q (F0 m pc ls (.int i :: .null :: rest)) := by
  intro T hT X
  obtain ⟨t, st, q⟩ := k T hT X
  exact ⟨t, X.laloadNull hexec (g := F0 m pc ls (.int i :: .null :: rest)) rfl (rest := rest) rfl (by rw [hb]; exact hdg) t st, q⟩
theorem vx_faloadN (hexec : p.tables.exec = Jvm.exec) (hb : c.code = cc) {i : Int32} (hdg : decode cc pc = .ok (.faload, 1)) (k : vx_NoteN p l e R s m args below meth c H locs cells slots Q (F0 m pc ls rest)) : W p l e R s m args below meth c H locs cells slots Q (F0 m pc ls (.int i :: .null :: rest)) := by
  intro T hT X
  obtain ⟨t, st, q⟩ := k T hT X
  exact ⟨t, X.faloadNull hexec (g := F0 m pc ls (.int i :: .null :: rest)) rfl (rest := rest) rfl (by rw [hb]; exact hdg) t st, q⟩
theorem vx_daloadN (hexec : p.tables.exec = Jvm.exec) (hb : c.code = cc) {i : Int32} (hdg : decode cc pc = .ok (.daload, 1)) (k : vx_NoteN p l e R s m args below meth c H locs cells slots Q (F0 m pc ls rest)) : W p l e R s m args below meth c H locs cells slots Q (F0 m pc ls (.int i :: .null :: rest)) := by
  intro T hT X
  obtain ⟨t, st, q⟩ := k T hT X
  exact ⟨t, X.daloadNull hexec (g := F0 m pc ls (.int i :: .null :: rest)) rfl (rest := rest) rfl (by rw [hb]; exact hdg) t st, q⟩
theorem vx_aaloadN (hexec : p.tables.exec = Jvm.exec) (hb : c.code = cc) {i : Int32} (hdg : decode cc pc = .ok (.aaload, 1)) (k : vx_NoteN p l e R s m args below meth c H locs cells slots Q (F0 m pc ls rest)) : W p l e R s m args below meth c H locs cells slots Q (F0 m pc ls (.int i :: .null :: rest)) := by
  intro T hT X
  obtain ⟨t, st, q⟩ := k T hT X
  exact ⟨t, X.aaloadNull hexec (g := F0 m pc ls (.int i :: .null :: rest)) rfl (rest := rest) rfl (by rw [hb]; exact hdg) t st, q⟩
theorem vx_baloadN (hexec : p.tables.exec = Jvm.exec) (hb : c.code = cc) {i : Int32} (hdg : decode cc pc = .ok (.baload, 1)) (k : vx_NoteN p l e R s m args below meth c H locs cells slots Q (F0 m pc ls rest)) : W p l e R s m args below meth c H locs cells slots Q (F0 m pc ls (.int i :: .null :: rest)) := by
  intro T hT X
  obtain ⟨t, st, q⟩ := k T hT X
  exact ⟨t, X.baloadNull hexec (g := F0 m pc ls (.int i :: .null :: rest)) rfl (rest := rest) rfl (by rw [hb]; exact hdg) t st, q⟩
theorem vx_caloadN (hexec : p.tables.exec = Jvm.exec) (hb : c.code = cc) {i : Int32} (hdg : decode cc pc = .ok (.caload, 1)) (k : vx_NoteN p l e R s m args below meth c H locs cells slots Q (F0 m pc ls rest)) : W p l e R s m args below meth c H locs cells slots Q (F0 m pc ls (.int i :: .null :: rest)) := by
  intro T hT X
  obtain ⟨t, st, q⟩ := k T hT X
  exact ⟨t, X.caloadNull hexec (g := F0 m pc ls (.int i :: .null :: rest)) rfl (rest := rest) rfl (by rw [hb]; exact hdg) t st, q⟩
theorem vx_saloadN (hexec : p.tables.exec = Jvm.exec) (hb : c.code = cc) {i : Int32} (hdg : decode cc pc = .ok (.saload, 1)) (k : vx_NoteN p l e R s m args below meth c H locs cells slots Q (F0 m pc ls rest)) : W p l e R s m args below meth c H locs cells slots Q (F0 m pc ls (.int i :: .null :: rest)) := by
  intro T hT X
  obtain ⟨t, st, q⟩ := k T hT X
  exact ⟨t, X.saloadNull hexec (g := F0 m pc ls (.int i :: .null :: rest)) rfl (rest := rest) rfl (by rw [hb]; exact hdg) t st, q⟩
theorem vx_iastoreN (hexec : p.tables.exec = Jvm.exec) (hb : c.code = cc) {x : Int32} {i : Int32} (hdg : decode cc pc = .ok (.iastore, 1)) (k : vx_NoteN p l e R s m args below meth c H locs cells slots Q (F0 m pc ls rest)) : W p l e R s m args below meth c H locs cells slots Q (F0 m pc ls (.int x :: .int i :: .null :: rest)) := by
  intro T hT X
  obtain ⟨t, st, q⟩ := k T hT X
  exact ⟨t, X.iastoreNull hexec (g := F0 m pc ls (.int x :: .int i :: .null :: rest)) rfl (rest := rest) rfl (by rw [hb]; exact hdg) t st, q⟩
theorem vx_lastoreN (hexec : p.tables.exec = Jvm.exec) (hb : c.code = cc) {x : Int64} {i : Int32} (hdg : decode cc pc = .ok (.lastore, 1)) (k : vx_NoteN p l e R s m args below meth c H locs cells slots Q (F0 m pc ls rest)) : W p l e R s m args below meth c H locs cells slots Q (F0 m pc ls (.long x :: .int i :: .null :: rest)) := by
  intro T hT X
  obtain ⟨t, st, q⟩ := k T hT X
  exact ⟨t, X.lastoreNull hexec (g := F0 m pc ls (.long x :: .int i :: .null :: rest)) rfl (rest := rest) rfl (by rw [hb]; exact hdg) t st, q⟩
theorem vx_fastoreN (hexec : p.tables.exec = Jvm.exec) (hb : c.code = cc) {x : UInt32} {i : Int32} (hdg : decode cc pc = .ok (.fastore, 1)) (k : vx_NoteN p l e R s m args below meth c H locs cells slots Q (F0 m pc ls rest)) : W p l e R s m args below meth c H locs cells slots Q (F0 m pc ls (.float x :: .int i :: .null :: rest)) := by
  intro T hT X
  obtain ⟨t, st, q⟩ := k T hT X
  exact ⟨t, X.fastoreNull hexec (g := F0 m pc ls (.float x :: .int i :: .null :: rest)) rfl (rest := rest) rfl (by rw [hb]; exact hdg) t st, q⟩
theorem vx_dastoreN (hexec : p.tables.exec = Jvm.exec) (hb : c.code = cc) {x : UInt64} {i : Int32} (hdg : decode cc pc = .ok (.dastore, 1)) (k : vx_NoteN p l e R s m args below meth c H locs cells slots Q (F0 m pc ls rest)) : W p l e R s m args below meth c H locs cells slots Q (F0 m pc ls (.double x :: .int i :: .null :: rest)) := by
  intro T hT X
  obtain ⟨t, st, q⟩ := k T hT X
  exact ⟨t, X.dastoreNull hexec (g := F0 m pc ls (.double x :: .int i :: .null :: rest)) rfl (rest := rest) rfl (by rw [hb]; exact hdg) t st, q⟩
theorem vx_bastoreN (hexec : p.tables.exec = Jvm.exec) (hb : c.code = cc) {x : Int32} {i : Int32} (hdg : decode cc pc = .ok (.bastore, 1)) (k : vx_NoteN p l e R s m args below meth c H locs cells slots Q (F0 m pc ls rest)) : W p l e R s m args below meth c H locs cells slots Q (F0 m pc ls (.int x :: .int i :: .null :: rest)) := by
  intro T hT X
  obtain ⟨t, st, q⟩ := k T hT X
  exact ⟨t, X.bastoreNull hexec (g := F0 m pc ls (.int x :: .int i :: .null :: rest)) rfl (rest := rest) rfl (by rw [hb]; exact hdg) t st, q⟩
theorem vx_castoreN (hexec : p.tables.exec = Jvm.exec) (hb : c.code = cc) {x : Int32} {i : Int32} (hdg : decode cc pc = .ok (.castore, 1)) (k : vx_NoteN p l e R s m args below meth c H locs cells slots Q (F0 m pc ls rest)) : W p l e R s m args below meth c H locs cells slots Q (F0 m pc ls (.int x :: .int i :: .null :: rest)) := by
  intro T hT X
  obtain ⟨t, st, q⟩ := k T hT X
  exact ⟨t, X.castoreNull hexec (g := F0 m pc ls (.int x :: .int i :: .null :: rest)) rfl (rest := rest) rfl (by rw [hb]; exact hdg) t st, q⟩
theorem vx_sastoreN (hexec : p.tables.exec = Jvm.exec) (hb : c.code = cc) {x : Int32} {i : Int32} (hdg : decode cc pc = .ok (.sastore, 1)) (k : vx_NoteN p l e R s m args below meth c H locs cells slots Q (F0 m pc ls rest)) : W p l e R s m args below meth c H locs cells slots Q (F0 m pc ls (.int x :: .int i :: .null :: rest)) := by
  intro T hT X
  obtain ⟨t, st, q⟩ := k T hT X
  exact ⟨t, X.sastoreNull hexec (g := F0 m pc ls (.int x :: .int i :: .null :: rest)) rfl (rest := rest) rfl (by rw [hb]; exact hdg) t st, q⟩
theorem vx_invokeN {own C : String} {index maxL : Nat} {y : MethodName} {bytes : ByteArray} {ret : Option FieldType} (hexec : p.tables.exec = Jvm.exec) (hb : c.code = cc) (hown : s.vm.findClass own = some m.cls) (hlink : (Cond.methodLink own index y).before args s = true) (hinst : (Cond.instanceMethod y).before args s = true) (hcode : (Cond.code y bytes maxL ret).before args s = true) (hsel : (Cond.selects C y y).before args s = true)
    (hx : y.cls ≠ "java/lang/invoke/MethodHandle" ∧ y.cls ≠ "java/lang/invoke/VarHandle") {As : List Value} (hlen : (parseMethodDescriptor y.desc).map (fun d => d.parameters.length) = some As.length) (hdg : decode cc pc = .ok (.invokevirtual index, 3))
    (k : vx_NoteN p l e R s m args below meth c H locs cells slots Q (F0 m pc ls rest)) {st0 : List Value} (hst : st0 = As.reverse ++ .null :: rest) : W p l e R s m args below meth c H locs cells slots Q (F0 m pc ls st0) := by
  intro T hT X
  obtain ⟨r0, r, hn, hrm, hstR, hsigR⟩ := va_Decl.of hinst hcode
  obtain ⟨c2, r2, m2, q1, q2, q3, q4, kP, hkP, hkPi⟩ := Cond.selects_spec hsel
  cases hn.symm.trans q3
  have hl9 : As.length = r.sig.parameters.length := by
    rw [hsigR] at hlen
    exact (Option.some.inj hlen).symm
  obtain ⟨vm', X1, st1⟩ := X.invokevirtualNull hexec hown hlink hn hrm hstR hkP hkPi hx (g := F0 m pc ls st0) rfl (argsL := As) (rest := rest) hl9 hst (by rw [hb]; exact hdg)
  obtain ⟨t, st, q⟩ := k (T.setVm vm') hT X1
  exact ⟨t, st1 t st, q⟩
theorem vx_newarrayZ {atype : ArrayType} (hexec : p.tables.exec = Jvm.exec) (hb : c.code = cc) {n : Int32} (h0 : n < 0) (hdg : decode cc pc = .ok (.newarray atype, 2)) (k : ∀ tx : String, tx = toString n → vx_Note p l e R s m args below meth c H locs cells slots Q (F0 m pc ls rest) "java/lang/NegativeArraySizeException" tx) : W p l e R s m args below meth c H locs cells slots Q (F0 m pc ls (.int n :: rest)) := by
  intro T hT X
  obtain ⟨t, st, q⟩ := k _ rfl T hT X
  exact ⟨t, X.newarrayNegative hexec (g := F0 m pc ls (.int n :: rest)) rfl h0 (rest := rest) rfl (by rw [hb]; exact hdg) t st, q⟩
end
end VXM
/-! ===== END ===== -/
/-! ===== BEGIN an exception as an object: made, kept, thrown later (no traces kept) ===== -/
section VXK
variable {p : Program} {l : Launch} {e : Env} {R : Room} {s : State} {m₀ : MethodId} {args : Array Value} {below : List Frame} {meth : Method} {c : Code} {W : State} {locs : List Loc} {cells slots : Nat}
set_option maxHeartbeats 1000000 in
theorem vx_ctorMadeS (X : Stand p l e R s m₀ args below meth c W locs cells slots) (hexec : p.tables.exec = Jvm.exec) (htr : e.platform.stackTraces = false) {own cls : String} {names : List String} {ic : Nat}
    (hown : s.vm.findClass own = some m₀.cls) (hcls : Bundle.fit cls = true) (hnames : ∀ n ∈ names, Bundle.fit n = true)
    (h : ∀ a ∈ Bundle.ownAtoms own ic cls names, a.before args s = true)
    (hlocs : ∀ x ∈ locs, ∀ cell, s.heap[x.base]? = some cell → cell.vm.isStatics = false)
    {a : Addr} {cX : ClassId} {kX : Class} (hfoundX : s.vm.findClass cls = some cX) (hkX : s.vm.classes[cX]? = some kX) (hcell : W.heap[a]? = some (freshCell cX kX)) (hnew : s.heap.size ≤ a)
    {msg : Value} (hmsg : msg.isRef = true)
    {g : JFrame} (hg : g.method = m₀) (hsize : g.locals.size = c.maxLocals) {rest : List Value} (hstack : g.stack = msg :: .ref a :: .ref a :: rest)
    (hd6 : decode c.code g.pc = .ok (.invokespecial ic, 3))
    (hRframes : names.length + 3 < R.frames) (hRlocals : 2 * g.monitorRoom + ((Value.ref a :: rest).map fun v => v.category).sum + (13 * (names.length + 1) + 42) ≤ R.locals) :
    ∃ (V : State) (ce : Cell) (L : List Loc), Stand p l e R s m₀ args below meth c (V.setCell a ce) (locs ++ L) cells slots ∧ (∀ y ∈ L, y.base = a) ∧ a < V.heap.size ∧ ce.cls = cX ∧ ce.vm = .none ∧
      ∀ target, Steps p.tables e below ((V.setCell a ce).setTop { g with stack := .ref a :: rest, pc := g.pc + 3 }) target → Steps p.tables e below (W.setTop g) target := by
  have howns : e.platform.frameOwnsMonitors = true := by rw [X.admits.platform]
  have hfin : e.platform.finalization = false := by rw [X.admits.platform]
  have hpl : e.platform.magicAccessors = ({} : Platform).magicAccessors := by rw [X.admits.platform]
  have a' : ∀ x, x ∈ Bundle.ownAtoms own ic cls names → x.holds args s none s [] = true := fun x hx => h x hx
  obtain ⟨T, Z0, L, -, Y⟩ := ThrowableC.of_atoms (args := args) howns hfin hpl (fun x hx => h x (by simp [Bundle.ownAtoms, hx]))
  obtain ⟨Z, M, LZ, LM, hnZ⟩ := Init0T.ofS_atoms (args := args) hpl L Y (fun x hx => h x (by simp [Bundle.ownAtoms, hx]))
  obtain ⟨P1, Ps, hlen, L1, hL, hP1m, hlink1, hlink⟩ := Bundle.chainS (args := args) hpl hnZ names cls hcls hnames (fun x hx => h x (by simp [Bundle.ownAtoms, hx]))
  have hfound : s.vm.findClass cls = some P1.m.cls := findClass_of_methodNamed hP1m
  cases Option.some.inj (hfoundX.symm.trans hfound)
  obtain ⟨c1, kX', hc1, hk, hord, -, -, hn6⟩ := Cond.instantiable_spec (a' (.instantiable cls 6) (by simp [Bundle.ownAtoms]))
  cases Option.some.inj (hc1.symm.trans hfound)
  cases Option.some.inj (hkX.symm.trans hk)
  have hsel0 : selectMethod e.platform s.vm P1.m.cls T.fill0 = .method T.fill0 := by
    obtain ⟨c2, r2, m2, q1, q2, q3, q4, -⟩ := Cond.selects_spec (a' (.selects cls Bundle.tFill0 Bundle.tFill0) (by simp [Bundle.ownAtoms]))
    cases Option.some.inj (q1.symm.trans hfound)
    cases Option.some.inj (q2.symm.trans (State.methodFound?_of_named Y.fill0 (by decide)))
    cases Option.some.inj (q3.symm.trans Y.fill0)
    rw [Launch.admits_selectMethod X.admits]; exact q4
  have hselF : selectMethod e.platform s.vm P1.m.cls T.fill = .method T.fill := by
    obtain ⟨c2, r2, m2, q1, q2, q3, q4, -⟩ := Cond.selects_spec (a' (.selects cls Bundle.tFill Bundle.tFill) (by simp [Bundle.ownAtoms]))
    cases Option.some.inj (q1.symm.trans hfound)
    cases Option.some.inj (q2.symm.trans (State.methodFound?_of_named Y.fill (by decide)))
    cases Option.some.inj (q3.symm.trans Y.fill)
    rw [Launch.admits_selectMethod X.admits]; exact q4
  obtain ⟨cellS0, hcS0, hiss⟩ := Y.statics
  obtain ⟨u0, hu0⟩ := Cond.staticRefV Y.unassigned L.unassignedStatic L.statics hcS0 hiss (a' (.isRef (.static Bundle.tN "UNASSIGNED_STACK" Bundle.steD)) (by simp [Bundle.ownAtoms]))
  obtain ⟨sen, hsen⟩ := Cond.staticRefV Y.sentinel L.sentinelStatic L.statics hcS0 hiss (a' (.isRef (.static Bundle.tN "SUPPRESSED_SENTINEL" Bundle.listD)) (by simp [Bundle.ownAtoms]))
  obtain ⟨ci198, i198, fB, hk198, hg198, ha198, hsB, -, hnB, htB, hffB⟩ := Cond.ownField (t := .object "java/lang/Object") Y.found L.cls (by decide +kernel) (a' (.fieldLink Bundle.tN 198 Bundle.tN "backtrace" "Ljava/lang/Object;") (by simp [Bundle.ownAtoms])) (a' (.lays Bundle.tN Bundle.tN "backtrace" "Ljava/lang/Object;") (by simp [Bundle.ownAtoms])) e.platform hpl
  obtain ⟨cellS, hcS', heS, -, hkeep⟩ := X.same.2.2.2.2.2 T.aS cellS0 hcS0
  have hcellS : W.heap[T.aS]? = some cellS := hcS'
  have hout' : ∀ i, (⟨T.aS, i⟩ : Loc) ∉ locs := fun i hmem => by
    have := hlocs _ hmem cellS0 hcS0
    rw [hiss] at this; cases this
  have hknownS : cellS.vm ≠ .unknown := by
    rw [heS]; intro hu
    rw [show cellS0.vm = .unknown from hu] at hiss
    cases hiss
  have hneS : T.aS ≠ a := Nat.ne_of_lt (Nat.lt_of_lt_of_le (Array.getElem?_eq_some_iff.mp hcS0).1 hnew)
  obtain ⟨iM, hffM⟩ := Y.msg
  obtain ⟨tyC, dC, hdC, hdnC⟩ := Cond.laysAt hfound hk Y.cause (a' (.lays cls Bundle.tN "cause" "Ljava/lang/Throwable;") (by simp [Bundle.ownAtoms]))
  obtain ⟨tyS, dS, hdS, hdnS⟩ := Cond.laysAt hfound hk Y.stack (a' (.lays cls Bundle.tN "stackTrace" Bundle.steD) (by simp [Bundle.ownAtoms]))
  obtain ⟨tyP, dP, hdP, hdnP⟩ := Cond.laysAt hfound hk Y.supp (a' (.lays cls Bundle.tN "suppressedExceptions" Bundle.listD) (by simp [Bundle.ownAtoms]))
  obtain ⟨tyM, dM, hdM, hdnM⟩ := Cond.laysAt hfound hk hffM (a' (.lays cls Bundle.tN "detailMessage" "Ljava/lang/String;") (by simp [Bundle.ownAtoms]))
  obtain ⟨tyB, dB, hdB, hdnB⟩ := Cond.laysAt hfound hk hffB (a' (.lays cls Bundle.tN "backtrace" "Ljava/lang/Object;") (by simp [Bundle.ownAtoms]))
  have bC := Cond.laysApart hdB hdC hdnB hdnC (by rw [hnB, Y.causeName]; decide)
  have bS := Cond.laysApart hdB hdS hdnB hdnS (by rw [hnB, Y.stackName]; decide)
  have bP := Cond.laysApart hdB hdP hdnB hdnP (by rw [hnB, Y.suppName]; decide)
  have hskip : SkipFacts T e.platform s (fun u => u) u0 ((preparedCellV T.toThrowableT (freshCell P1.m.cls kX) a u0 sen).withEntry W.cur) :=
    ⟨{ ci198 := ci198, i198 := i198, fBack := fB }, ⟨hk198, hg198, ha198, hsB⟩, by
      have := fresh_default (c := P1.m.cls) tyB
      rw [htB] at this
      simpa [preparedCellV, Cell.setSlot, Cell.withEntry, Array.getElem?_setIfInBounds, bC, bS, bP, bC.symm, bS.symm, bP.symm, defaultValue] using this, fun _ _ => rfl⟩
  obtain ⟨tm, methC, cdC, kC, vm₁, hnC, -, -, -, -, -, -, -, hW₁, st1⟩ := Steps.initColdS (tb := p.tables) (e := e) (below := below) (s := s) (U := W) X.here hexec X.warmed hpl hown (t := Bundle.initS cls) rfl rfl (Bundle.fit_spec hcls).2
    (a' (.methodLink own ic (Bundle.initS cls)) (by simp [Bundle.ownAtoms])) (h (.instanceMethod (Bundle.initS cls)) (by cases names <;> simp [Bundle.ownAtoms, Bundle.chainSAtoms, Bundle.passSAtoms])) (bytes := Bundle.six) (maxL := 2) (h (.code (Bundle.initS cls) Bundle.six 2 none) (by cases names <;> simp [Bundle.ownAtoms, Bundle.chainSAtoms, Bundle.passSAtoms]))
    (f := g) hg (a := a) (msg := msg) (rest := .ref a :: rest) hstack hd6
  cases Option.some.inj (hnC.symm.trans hP1m)
  have X₁ := X.noted hW₁
  obtain ⟨vm₂, X₂, st2⟩ := X₁.ctorMessageOffV hexec (g := { g with stack := .ref a :: rest }) hg hsize T L Z LZ M LM (P1 :: Ps)
    (fun P hP => by rcases List.mem_cons.mp hP with rfl | hP; exact L1; exact hL P hP) ⟨hlink1, hlink⟩ (u0 := u0) (sen := sen) (self := a) hmsg (cell := freshCell P1.m.cls kX) (cellS := cellS)
    hcell (fun _ => by simp) (by simp) rfl rfl hsel0 hselF hcellS hneS hknownS (by rw [hkeep _ (hout' _)]; exact hu0) (by rw [hkeep _ (hout' _)]; exact hsen)
    (Takes.of_laid hk hord tyC (by rw [Y.causeType]; rfl)) (Takes.of_laid hk hord tyS (by rw [Y.stackType]; exact fits_refV_array _ u0)) (Takes.of_laid hk hord tyP (by rw [Y.suppType]; exact fits_refV_object _ sen))
    (Takes.of_laid hk hord tyM (by rw [Y.msgType]; exact fits_refV_object _ ⟨msg, hmsg⟩)) Y.objLocals hskip htr [] hd6
    (by simp only [List.length_cons, hlen]; omega) (by simp only [List.length_cons, hlen]; exact hRlocals)
  have hlt : a < ((W.setVm vm₁).setVm vm₂).heap.size := (Array.getElem?_eq_some_iff.mp hcell).1
  refine ⟨(W.setVm vm₁).setVm vm₂, _, _, X₂, fun y hy => ?_, hlt, rfl, rfl, fun target hwalk => st1 _ (fun acts => ?_)⟩
  · simp only [List.mem_cons, List.not_mem_nil, or_false] at hy
    rcases hy with rfl | rfl | rfl | rfl | rfl <;> rfl
  · rw [doInvoke_state]
    exact st2 _ hwalk
set_option maxHeartbeats 1000000 in
theorem vx_ctorMade0 (X : Stand p l e R s m₀ args below meth c W locs cells slots) (hexec : p.tables.exec = Jvm.exec) (htr : e.platform.stackTraces = false) {own cls : String} {names : List String} {ic : Nat}
    (hown : s.vm.findClass own = some m₀.cls) (hcls : Bundle.fit cls = true) (hnames : ∀ n ∈ names, Bundle.fit n = true)
    (h : ∀ a ∈ Bundle.ownAtoms0 own ic cls names, a.before args s = true)
    (hlocs : ∀ x ∈ locs, ∀ cell, s.heap[x.base]? = some cell → cell.vm.isStatics = false)
    {a : Addr} {cX : ClassId} {kX : Class} (hfoundX : s.vm.findClass cls = some cX) (hkX : s.vm.classes[cX]? = some kX) (hcell : W.heap[a]? = some (freshCell cX kX)) (hnew : s.heap.size ≤ a)
    {g : JFrame} (hg : g.method = m₀) (hsize : g.locals.size = c.maxLocals) {rest : List Value} (hstack : g.stack = .ref a :: .ref a :: rest)
    (hd6 : decode c.code g.pc = .ok (.invokespecial ic, 3))
    (hRframes : names.length + 3 < R.frames) (hRlocals : 2 * g.monitorRoom + ((Value.ref a :: rest).map fun v => v.category).sum + (13 * (names.length + 1) + 41) ≤ R.locals) :
    ∃ (V : State) (ce : Cell) (L : List Loc), Stand p l e R s m₀ args below meth c (V.setCell a ce) (locs ++ L) cells slots ∧ (∀ y ∈ L, y.base = a) ∧ a < V.heap.size ∧ ce.cls = cX ∧ ce.vm = .none ∧
      ∀ target, Steps p.tables e below ((V.setCell a ce).setTop { g with stack := .ref a :: rest, pc := g.pc + 3 }) target → Steps p.tables e below (W.setTop g) target := by
  have howns : e.platform.frameOwnsMonitors = true := by rw [X.admits.platform]
  have hfin : e.platform.finalization = false := by rw [X.admits.platform]
  have hpl : e.platform.magicAccessors = ({} : Platform).magicAccessors := by rw [X.admits.platform]
  have a' : ∀ x, x ∈ Bundle.ownAtoms0 own ic cls names → x.holds args s none s [] = true := fun x hx => h x hx
  obtain ⟨T, Z, L, LZ, Y⟩ := ThrowableC.of_atoms (args := args) howns hfin hpl (fun x hx => h x (by simp [Bundle.ownAtoms0, hx]))
  obtain ⟨P1, Ps, hlen, L1, hL, hP1m, hlink1, hlink⟩ := Bundle.chain0 (args := args) hpl Y.init0 names cls hcls hnames (fun x hx => h x (by simp [Bundle.ownAtoms0, hx]))
  have hfound : s.vm.findClass cls = some P1.m.cls := findClass_of_methodNamed hP1m
  cases Option.some.inj (hfoundX.symm.trans hfound)
  obtain ⟨c1, kX', hc1, hk, hord, -, -, hn6⟩ := Cond.instantiable_spec (a' (.instantiable cls 6) (by simp [Bundle.ownAtoms0]))
  cases Option.some.inj (hc1.symm.trans hfound)
  cases Option.some.inj (hkX.symm.trans hk)
  have hsel0 : selectMethod e.platform s.vm P1.m.cls T.fill0 = .method T.fill0 := by
    obtain ⟨c2, r2, m2, q1, q2, q3, q4, -⟩ := Cond.selects_spec (a' (.selects cls Bundle.tFill0 Bundle.tFill0) (by simp [Bundle.ownAtoms0]))
    cases Option.some.inj (q1.symm.trans hfound)
    cases Option.some.inj (q2.symm.trans (State.methodFound?_of_named Y.fill0 (by decide)))
    cases Option.some.inj (q3.symm.trans Y.fill0)
    rw [Launch.admits_selectMethod X.admits]; exact q4
  have hselF : selectMethod e.platform s.vm P1.m.cls T.fill = .method T.fill := by
    obtain ⟨c2, r2, m2, q1, q2, q3, q4, -⟩ := Cond.selects_spec (a' (.selects cls Bundle.tFill Bundle.tFill) (by simp [Bundle.ownAtoms0]))
    cases Option.some.inj (q1.symm.trans hfound)
    cases Option.some.inj (q2.symm.trans (State.methodFound?_of_named Y.fill (by decide)))
    cases Option.some.inj (q3.symm.trans Y.fill)
    rw [Launch.admits_selectMethod X.admits]; exact q4
  obtain ⟨cellS0, hcS0, hiss⟩ := Y.statics
  obtain ⟨u0, hu0⟩ := Cond.staticRefV Y.unassigned L.unassignedStatic L.statics hcS0 hiss (a' (.isRef (.static Bundle.tN "UNASSIGNED_STACK" Bundle.steD)) (by simp [Bundle.ownAtoms0]))
  obtain ⟨sen, hsen⟩ := Cond.staticRefV Y.sentinel L.sentinelStatic L.statics hcS0 hiss (a' (.isRef (.static Bundle.tN "SUPPRESSED_SENTINEL" Bundle.listD)) (by simp [Bundle.ownAtoms0]))
  obtain ⟨ci198, i198, fB, hk198, hg198, ha198, hsB, -, hnB, htB, hffB⟩ := Cond.ownField (t := .object "java/lang/Object") Y.found L.cls (by decide +kernel) (a' (.fieldLink Bundle.tN 198 Bundle.tN "backtrace" "Ljava/lang/Object;") (by simp [Bundle.ownAtoms0])) (a' (.lays Bundle.tN Bundle.tN "backtrace" "Ljava/lang/Object;") (by simp [Bundle.ownAtoms0])) e.platform hpl
  obtain ⟨cellS, hcS', heS, -, hkeep⟩ := X.same.2.2.2.2.2 T.aS cellS0 hcS0
  have hcellS : W.heap[T.aS]? = some cellS := hcS'
  have hout' : ∀ i, (⟨T.aS, i⟩ : Loc) ∉ locs := fun i hmem => by
    have := hlocs _ hmem cellS0 hcS0
    rw [hiss] at this; cases this
  have hknownS : cellS.vm ≠ .unknown := by
    rw [heS]; intro hu
    rw [show cellS0.vm = .unknown from hu] at hiss
    cases hiss
  have hneS : T.aS ≠ a := Nat.ne_of_lt (Nat.lt_of_lt_of_le (Array.getElem?_eq_some_iff.mp hcS0).1 hnew)
  obtain ⟨iM, hffM⟩ := Y.msg
  obtain ⟨tyC, dC, hdC, hdnC⟩ := Cond.laysAt hfound hk Y.cause (a' (.lays cls Bundle.tN "cause" "Ljava/lang/Throwable;") (by simp [Bundle.ownAtoms0]))
  obtain ⟨tyS, dS, hdS, hdnS⟩ := Cond.laysAt hfound hk Y.stack (a' (.lays cls Bundle.tN "stackTrace" Bundle.steD) (by simp [Bundle.ownAtoms0]))
  obtain ⟨tyP, dP, hdP, hdnP⟩ := Cond.laysAt hfound hk Y.supp (a' (.lays cls Bundle.tN "suppressedExceptions" Bundle.listD) (by simp [Bundle.ownAtoms0]))
  obtain ⟨tyM, dM, hdM, hdnM⟩ := Cond.laysAt hfound hk hffM (a' (.lays cls Bundle.tN "detailMessage" "Ljava/lang/String;") (by simp [Bundle.ownAtoms0]))
  obtain ⟨tyB, dB, hdB, hdnB⟩ := Cond.laysAt hfound hk hffB (a' (.lays cls Bundle.tN "backtrace" "Ljava/lang/Object;") (by simp [Bundle.ownAtoms0]))
  have bC := Cond.laysApart hdB hdC hdnB hdnC (by rw [hnB, Y.causeName]; decide)
  have bS := Cond.laysApart hdB hdS hdnB hdnS (by rw [hnB, Y.stackName]; decide)
  have bP := Cond.laysApart hdB hdP hdnB hdnP (by rw [hnB, Y.suppName]; decide)
  have hskip : SkipFacts T e.platform s (fun u => u) u0 ((preparedCellV T.toThrowableT (freshCell P1.m.cls kX) a u0 sen).withEntry W.cur) :=
    ⟨{ ci198 := ci198, i198 := i198, fBack := fB }, ⟨hk198, hg198, ha198, hsB⟩, by
      have := fresh_default (c := P1.m.cls) tyB
      rw [htB] at this
      simpa [preparedCellV, Cell.setSlot, Cell.withEntry, Array.getElem?_setIfInBounds, bC, bS, bP, bC.symm, bS.symm, bP.symm, defaultValue] using this, fun _ _ => rfl⟩
  obtain ⟨tm, methC, cdC, kC, vm₁, hnC, -, -, -, -, -, -, -, hW₁, st1⟩ := Steps.initCold (tb := p.tables) (e := e) (below := below) (s := s) (U := W) X.here hexec X.warmed hpl hown (t := Bundle.init0 cls) rfl rfl (Bundle.fit_spec hcls).2
    (a' (.methodLink own ic (Bundle.init0 cls)) (by simp [Bundle.ownAtoms0])) (h (.instanceMethod (Bundle.init0 cls)) (by cases names <;> simp [Bundle.ownAtoms0, Bundle.chain0Atoms, Bundle.passAtoms])) (bytes := Bundle.five) (maxL := 1) (h (.code (Bundle.init0 cls) Bundle.five 1 none) (by cases names <;> simp [Bundle.ownAtoms0, Bundle.chain0Atoms, Bundle.passAtoms]))
    (f := g) hg (a := a) (rest := .ref a :: rest) hstack hd6
  cases Option.some.inj (hnC.symm.trans hP1m)
  have X₁ := X.noted hW₁
  obtain ⟨vm₂, X₂, st2⟩ := X₁.ctorPlainOffV hexec (g := { g with stack := .ref a :: rest }) hg hsize T L Z LZ (P1 :: Ps)
    (fun P hP => by rcases List.mem_cons.mp hP with rfl | hP; exact L1; exact hL P hP) ⟨hlink1, hlink⟩ (u0 := u0) (sen := sen) (self := a) (cell := freshCell P1.m.cls kX) (cellS := cellS)
    hcell (fun _ => by simp) (by simp) rfl rfl hsel0 hselF hcellS hneS hknownS (by rw [hkeep _ (hout' _)]; exact hu0) (by rw [hkeep _ (hout' _)]; exact hsen)
    (Takes.of_laid hk hord tyC (by rw [Y.causeType]; rfl)) (Takes.of_laid hk hord tyS (by rw [Y.stackType]; exact fits_refV_array _ u0)) (Takes.of_laid hk hord tyP (by rw [Y.suppType]; exact fits_refV_object _ sen)) Y.objLocals hskip htr [] hd6
    (by simp only [List.length_cons, hlen]; omega) (by simp only [List.length_cons, hlen]; exact hRlocals)
  have hlt : a < ((W.setVm vm₁).setVm vm₂).heap.size := (Array.getElem?_eq_some_iff.mp hcell).1
  refine ⟨(W.setVm vm₁).setVm vm₂, _, _, X₂, fun y hy => ?_, hlt, rfl, rfl, fun target hwalk => st1 _ (fun acts => ?_)⟩
  · simp only [List.mem_cons, List.not_mem_nil, or_false] at hy
    rcases hy with rfl | rfl | rfl | rfl <;> rfl
  · rw [doInvoke_state]
    exact st2 _ hwalk
end VXK
section VXK2
variable {p : Program} {l : Launch} {e : Env} {R : Room} {s : State} {m : MethodId} {args : Array Value} {below : List Frame} {meth : Method} {c : Code} {H : Heap} {locs : List Loc} {cells slots : Nat} {Q : State → Prop}
variable {ls : Array Slot} {rest : List Value} {D : va_G} {cl : List vw_C} {tys : List (ClassId × FieldType)} {ws : va_W}
/-- 'new E("text")' that isn't thrown at once: the object goes on the stack -/
theorem vx_makeS {cc : ByteArray} {pc : Nat} (hexec : p.tables.exec = Jvm.exec) (hb : c.code = cc) (hl : l.stackTraces = false) {own cls text : String} {names : List String} {ik is ic sa ci : Nat} {A : Nat → Prop} {T0 : u_T}
    (hown : s.vm.findClass own = some m.cls) (hcls : Bundle.fit cls = true) (hnames : ∀ n ∈ names, Bundle.fit n = true)
    (hk : (Cond.classLink own ik cls).before args s = true) (hini : (Cond.initialized cls).before args s = true) (hstr : vk_R own is text sa s) (hat : ∀ w ∈ vx_atS own ic cls names, w.before args s = true)
    (hgood : ∀ w ∈ Cond.classLink own ik cls :: Cond.initialized cls :: vx_atS own ic cls names, vx_ot w = true)
    (hU : vx_Zq Bundle.tN "UNASSIGNED_STACK" Bundle.steD A s s.heap) (hN : vx_Zq Bundle.tN "SUPPRESSED_SENTINEL" Bundle.listD A s s.heap) (hS : va_S A s.heap H locs) (hsize : ls.size = c.maxLocals)
    (d0 : decode cc pc = .ok (.new ik, 3)) (d3 : decode cc (pc + 3) = .ok (.dup, 1)) (d4 : decode cc (pc + 4) = .ok (.ldc is, 2)) (d6 : decode cc (pc + 6) = .ok (.invokespecial ic, 3))
    (hK : va_K D cl tys s) (hP : va_P D cl ws H) (hD : va_D A ws) (hA : ∀ q, s.heap.size ≤ q → A q) (hc : cl[ci]? = some (cls, T0, 0))
    (hRframes : names.length + 3 < R.frames) (hRlocals : (rest.map fun v => v.category).sum + (13 * (names.length + 1) + 43) ≤ R.locals) (hRcells : cells + 1 ≤ R.cells) (hRslots : slots + 6 ≤ R.slots)
    (kk : ∀ (q : Nat) (H1 : Heap), va_P D cl (ws ++ [(q, .inr (ci, []))]) H1 → va_D A (ws ++ [(q, .inr (ci, []))]) → va_S A s.heap H1 locs → W p l e R s m args below meth c H1 locs (cells + 1) (slots + 6) Q (F0 m (pc + 9) ls (.ref q :: rest))) :
    W p l e R s m args below meth c H locs cells slots Q (F0 m pc ls rest) := by
  intro T hT X
  subst hT
  have htr : e.platform.stackTraces = false := (show e.platform.stackTraces = l.stackTraces by rw [X.admits.platform]).trans hl
  have Y := vx_rebase X (R' := { frames := R.frames, locals := R.locals, cells := 1, slots := 6 }) (Nat.le_refl _) (Nat.le_refl _) hRcells hRslots
  obtain ⟨s', hA'⟩ : ∃ z, z = (T.setVm s.vm).setFrames (.invoking m args :: below) := ⟨_, rfl⟩
  rw [← hA'] at Y
  have hvm : s'.vm = s.vm := by rw [hA']; rfl
  have hhp : s'.heap = T.heap := by rw [hA']; rfl
  have hW0 : s.WarmedH s'.vm := by rw [hvm]; exact State.WarmedH.refl s
  have hat' : ∀ w ∈ vx_atS own ic cls names, w.before args s' = true := fun w hw => vx_ot_at hW0 hvm.symm (hgood w (List.mem_cons_of_mem _ (List.mem_cons_of_mem _ hw))) (hat w hw)
  have hk' : (Cond.classLink own ik cls).before args s' = true := vx_ot_at hW0 hvm.symm (hgood _ List.mem_cons_self) hk
  have hini' : (Cond.initialized cls).before args s' = true := vx_ot_at hW0 hvm.symm (hgood _ (List.mem_cons_of_mem _ List.mem_cons_self)) hini
  have hU' : vx_Zq Bundle.tN "UNASSIGNED_STACK" Bundle.steD A s' s'.heap := by rw [hhp]; exact vx_Zq.moved hW0.alike (hU.kept hS.2.1)
  have hN' : vx_Zq Bundle.tN "SUPPRESSED_SENTINEL" Bundle.listD A s' s'.heap := by rw [hhp]; exact vx_Zq.moved hW0.alike (hN.kept hS.2.1)
  have h : ∀ w ∈ Bundle.ownAtoms own ic cls names, w.before args s' = true := vx_own hat' (vx_isRefq hU'.1) (vx_isRefq hN'.1) hU'.2.word hN'.2.word
  have hown' : s'.vm.findClass own = some m.cls := by rw [hvm]; exact hown
  have hins : (Cond.instantiable cls 6).before args s' = true := h _ (by simp [Bundle.ownAtoms])
  obtain ⟨vm₁, cX, kX, hfX, hkX, -, -, X₁, st1⟩ := Y.newCold hexec (own := own) (C := cls) (index := ik) (n := 6) hown' hk' hins hini'
    (g := F0 m pc ls rest) rfl (by rw [hb]; exact d0) (Nat.le_refl _) (Nat.le_refl _)
  generalize hT1 : (T.setVm vm₁).pushCell { cls := cX, slots := kX.instanceTypes.map defaultValue, vm := .none } = T1 at X₁ st1
  have hcat : (Value.ref T.heap.size).category = 1 := rfl
  have hcellA : T1.heap[T.heap.size]? = some (freshCell cX kX) := by rw [← hT1]; exact State.heap_pushCell_size _ _
  have d3' : decode c.code (pc + 3) = .ok (.dup, 1) := by rw [hb]; exact d3
  have d4' : decode c.code (pc + 4) = .ok (.ldc is, 2) := by rw [hb]; exact d4
  have hstr' : vk_R own is text sa s' := vk_R.warm hW0 hstr
  obtain ⟨V, ce, L, Z, hL, hlt, hcl9, hvm9, st⟩ := vx_ctorMadeS X₁ hexec htr (own := own) (cls := cls) (names := names) (ic := ic) hown' hcls hnames h (fun x hx => nomatch hx) hfX hkX hcellA (by rw [hhp]; exact Nat.le_refl _) (msg := .ref sa) rfl
    (g := { method := m, pc := pc + 6, locals := ls, stack := .ref sa :: .ref T.heap.size :: .ref T.heap.size :: rest, locked := none }) rfl hsize (rest := rest) rfl
    (by rw [hb]; exact d6) hRframes (by simp only [List.map_cons, List.sum_cons, hcat]; omega)
  have Z0 := Stand.forget (locs := []) Z (fun y hy => by rw [hL y hy, hhp]; exact Nat.le_refl _)
  obtain ⟨f1, f2⟩ := vx_frame Z0.same
  rw [hhp] at f1 f2
  have hcid : ce.cls = D.1 ci := by
    rw [hcl9]
    have h1 := (hK.1 ci _ hc).2.1
    rw [hvm] at hfX
    exact Option.some.inj (hfX.symm.trans h1)
  have hh : (V.setCell T.heap.size ce).heap[T.heap.size]? = some ce := heapAt_setCell_self (s := V) ce hlt
  subst hA'
  have X5 := vx_back9 X Y Z0
  have X6 : Stand p l e R s m args below meth c (V.setCell T.heap.size ce) locs (cells + 1) (slots + 6) := { X5 with same := X5.same.mono (by omega) (by omega) }
  have hk9 : ∀ (k : Nat) (x : Nat × va_E), ws[k]? = some x → (V.setCell T.heap.size ce).heap[x.1]? = T.heap[x.1]? := fun k x hx => f2 x.1 ((hP k x hx).lt) (fun z hz => nomatch hz)
  obtain ⟨t, a1, b1⟩ := kk T.heap.size (V.setCell T.heap.size ce).heap ((hP.kept hk9).app (fun k x hx => by
      have hz : k < 1 := (List.getElem?_eq_some_iff.mp hx).1
      rw [show k = 0 by omega] at hx
      cases hx
      exact ⟨_, hc, ce, hh, hcid, hvm9, fun k hk => absurd hk (Nat.not_lt_zero k)⟩)) (hD.push hP rfl (hA _ hS.1)) ⟨Nat.le_trans hS.1 f1, fun q h1 h2 => (f2 q (Nat.lt_of_lt_of_le h1 hS.1) (fun z hz => nomatch hz)).trans (hS.2.1 q h1 h2), hS.2.2⟩ _ rfl X6
  refine ⟨t, st1 _ ?_, b1⟩
  show Steps p.tables e below (T1.setTop { method := m, pc := pc + 3, locals := ls, stack := .ref T.heap.size :: rest, locked := none }) _
  jvm_step X₁.here [X₁.here.top, hexec, d3', Value.category]
  exact X₁.ldcString hexec (own := own) (text := text) (index := is) (a := sa) hown' hstr'.1 hstr'.2
    (g := { method := m, pc := pc + 4, locals := ls, stack := .ref T.heap.size :: .ref T.heap.size :: rest, locked := none }) rfl d4' _ (st _ a1)
/-- 'new E()' that isn't thrown at once: the object goes on the stack -/
theorem vx_make0 {cc : ByteArray} {pc : Nat} (hexec : p.tables.exec = Jvm.exec) (hb : c.code = cc) (hl : l.stackTraces = false) {own cls : String} {names : List String} {ik ic ci : Nat} {A : Nat → Prop} {T0 : u_T}
    (hown : s.vm.findClass own = some m.cls) (hcls : Bundle.fit cls = true) (hnames : ∀ n ∈ names, Bundle.fit n = true)
    (hk : (Cond.classLink own ik cls).before args s = true) (hini : (Cond.initialized cls).before args s = true) (hat : ∀ w ∈ vx_at0 own ic cls names, w.before args s = true)
    (hgood : ∀ w ∈ Cond.classLink own ik cls :: Cond.initialized cls :: vx_at0 own ic cls names, vx_ot w = true)
    (hU : vx_Zq Bundle.tN "UNASSIGNED_STACK" Bundle.steD A s s.heap) (hN : vx_Zq Bundle.tN "SUPPRESSED_SENTINEL" Bundle.listD A s s.heap) (hS : va_S A s.heap H locs) (hsize : ls.size = c.maxLocals)
    (d0 : decode cc pc = .ok (.new ik, 3)) (d3 : decode cc (pc + 3) = .ok (.dup, 1)) (d4 : decode cc (pc + 4) = .ok (.invokespecial ic, 3))
    (hK : va_K D cl tys s) (hP : va_P D cl ws H) (hD : va_D A ws) (hA : ∀ q, s.heap.size ≤ q → A q) (hc : cl[ci]? = some (cls, T0, 0))
    (hRframes : names.length + 3 < R.frames) (hRlocals : (rest.map fun v => v.category).sum + (13 * (names.length + 1) + 42) ≤ R.locals) (hRcells : cells + 1 ≤ R.cells) (hRslots : slots + 6 ≤ R.slots)
    (kk : ∀ (q : Nat) (H1 : Heap), va_P D cl (ws ++ [(q, .inr (ci, []))]) H1 → va_D A (ws ++ [(q, .inr (ci, []))]) → va_S A s.heap H1 locs → W p l e R s m args below meth c H1 locs (cells + 1) (slots + 6) Q (F0 m (pc + 7) ls (.ref q :: rest))) :
    W p l e R s m args below meth c H locs cells slots Q (F0 m pc ls rest) := by
  intro T hT X
  subst hT
  have htr : e.platform.stackTraces = false := (show e.platform.stackTraces = l.stackTraces by rw [X.admits.platform]).trans hl
  have Y := vx_rebase X (R' := { frames := R.frames, locals := R.locals, cells := 1, slots := 6 }) (Nat.le_refl _) (Nat.le_refl _) hRcells hRslots
  obtain ⟨s', hA'⟩ : ∃ z, z = (T.setVm s.vm).setFrames (.invoking m args :: below) := ⟨_, rfl⟩
  rw [← hA'] at Y
  have hvm : s'.vm = s.vm := by rw [hA']; rfl
  have hhp : s'.heap = T.heap := by rw [hA']; rfl
  have hW0 : s.WarmedH s'.vm := by rw [hvm]; exact State.WarmedH.refl s
  have hat' : ∀ w ∈ vx_at0 own ic cls names, w.before args s' = true := fun w hw => vx_ot_at hW0 hvm.symm (hgood w (List.mem_cons_of_mem _ (List.mem_cons_of_mem _ hw))) (hat w hw)
  have hk' : (Cond.classLink own ik cls).before args s' = true := vx_ot_at hW0 hvm.symm (hgood _ List.mem_cons_self) hk
  have hini' : (Cond.initialized cls).before args s' = true := vx_ot_at hW0 hvm.symm (hgood _ (List.mem_cons_of_mem _ List.mem_cons_self)) hini
  have hU' : vx_Zq Bundle.tN "UNASSIGNED_STACK" Bundle.steD A s' s'.heap := by rw [hhp]; exact vx_Zq.moved hW0.alike (hU.kept hS.2.1)
  have hN' : vx_Zq Bundle.tN "SUPPRESSED_SENTINEL" Bundle.listD A s' s'.heap := by rw [hhp]; exact vx_Zq.moved hW0.alike (hN.kept hS.2.1)
  have h : ∀ w ∈ Bundle.ownAtoms0 own ic cls names, w.before args s' = true := vx_own hat' (vx_isRefq hU'.1) (vx_isRefq hN'.1) hU'.2.word hN'.2.word
  have hown' : s'.vm.findClass own = some m.cls := by rw [hvm]; exact hown
  have hins : (Cond.instantiable cls 6).before args s' = true := h _ (by simp [Bundle.ownAtoms0])
  obtain ⟨vm₁, cX, kX, hfX, hkX, -, -, X₁, st1⟩ := Y.newCold hexec (own := own) (C := cls) (index := ik) (n := 6) hown' hk' hins hini'
    (g := F0 m pc ls rest) rfl (by rw [hb]; exact d0) (Nat.le_refl _) (Nat.le_refl _)
  generalize hT1 : (T.setVm vm₁).pushCell { cls := cX, slots := kX.instanceTypes.map defaultValue, vm := .none } = T1 at X₁ st1
  have hcat : (Value.ref T.heap.size).category = 1 := rfl
  have hcellA : T1.heap[T.heap.size]? = some (freshCell cX kX) := by rw [← hT1]; exact State.heap_pushCell_size _ _
  have d3' : decode c.code (pc + 3) = .ok (.dup, 1) := by rw [hb]; exact d3
  obtain ⟨V, ce, L, Z, hL, hlt, hcl9, hvm9, st⟩ := vx_ctorMade0 X₁ hexec htr (own := own) (cls := cls) (names := names) (ic := ic) hown' hcls hnames h (fun x hx => nomatch hx) hfX hkX hcellA (by rw [hhp]; exact Nat.le_refl _)
    (g := { method := m, pc := pc + 4, locals := ls, stack := .ref T.heap.size :: .ref T.heap.size :: rest, locked := none }) rfl hsize (rest := rest) rfl
    (by rw [hb]; exact d4) hRframes (by simp only [List.map_cons, List.sum_cons, hcat]; omega)
  have Z0 := Stand.forget (locs := []) Z (fun y hy => by rw [hL y hy, hhp]; exact Nat.le_refl _)
  obtain ⟨f1, f2⟩ := vx_frame Z0.same
  rw [hhp] at f1 f2
  have hcid : ce.cls = D.1 ci := by
    rw [hcl9]
    have h1 := (hK.1 ci _ hc).2.1
    rw [hvm] at hfX
    exact Option.some.inj (hfX.symm.trans h1)
  have hh : (V.setCell T.heap.size ce).heap[T.heap.size]? = some ce := heapAt_setCell_self (s := V) ce hlt
  subst hA'
  have X5 := vx_back9 X Y Z0
  have X6 : Stand p l e R s m args below meth c (V.setCell T.heap.size ce) locs (cells + 1) (slots + 6) := { X5 with same := X5.same.mono (by omega) (by omega) }
  have hk9 : ∀ (k : Nat) (x : Nat × va_E), ws[k]? = some x → (V.setCell T.heap.size ce).heap[x.1]? = T.heap[x.1]? := fun k x hx => f2 x.1 ((hP k x hx).lt) (fun z hz => nomatch hz)
  obtain ⟨t, a1, b1⟩ := kk T.heap.size (V.setCell T.heap.size ce).heap ((hP.kept hk9).app (fun k x hx => by
      have hz : k < 1 := (List.getElem?_eq_some_iff.mp hx).1
      rw [show k = 0 by omega] at hx
      cases hx
      exact ⟨_, hc, ce, hh, hcid, hvm9, fun k hk => absurd hk (Nat.not_lt_zero k)⟩)) (hD.push hP rfl (hA _ hS.1)) ⟨Nat.le_trans hS.1 f1, fun q h1 h2 => (f2 q (Nat.lt_of_lt_of_le h1 hS.1) (fun z hz => nomatch hz)).trans (hS.2.1 q h1 h2), hS.2.2⟩ _ rfl X6
  refine ⟨t, st1 _ ?_, b1⟩
  show Steps p.tables e below (T1.setTop { method := m, pc := pc + 3, locals := ls, stack := .ref T.heap.size :: rest, locked := none }) _
  jvm_step X₁.here [X₁.here.top, hexec, d3', Value.category]
  exact st _ a1
/-- 'throw x' of an object that was made before -/
theorem vx_athrow {cc : ByteArray} {pc : Nat} (hexec : p.tables.exec = Jvm.exec) (hb : c.code = cc) {q : Addr} (hdg : decode cc pc = .ok (.athrow, 1)) (k : vx_W p l e R s m args below meth c H locs cells slots Q (F0 m pc ls rest) q) : W p l e R s m args below meth c H locs cells slots Q (F0 m pc ls (.ref q :: rest)) := by
  intro T hT X
  obtain ⟨t, st, hq⟩ := k T hT X
  refine ⟨t, ?_, hq⟩
  have hdg' : decode c.code pc = .ok (.athrow, 1) := by rw [hb]; exact hdg
  jvm_step X.here [X.here.top, hexec, hdg', athrow.wp_sem]
  exact st
end VXK2
/-! ===== END ===== -/
/-! ===== BEGIN a constructor that throws (launches without stack traces) ===== -/
section VXIA
variable {p : Program} {l : Launch} {e : Env} {R : Room} {s : State} {m : MethodId} {args : Array Value} {below : List Frame} {meth : Method} {c : Code} {T : State} {locs : List Loc} {cells slots : Nat}
theorem vx_callI (X : Stand p l e R s m args below meth c T locs cells slots) (hexec : p.tables.exec = Jvm.exec) {own : String} {index : Nat} {y : MethodName} {bytes : ByteArray} {maxL : Nat}
    (hown : s.vm.findClass own = some m.cls) (hy1 : y.name = "<init>") (hlink : (Cond.methodLink own index y).before args s = true) (hinst : (Cond.instanceMethod y).before args s = true)
    (hcode : (Cond.code y bytes maxL none).before args s = true) (hy : y.cls ≠ "java/lang/invoke/MethodHandle" ∧ y.cls ≠ "java/lang/invoke/VarHandle")
    {W9 : Nat} {Pre : Pt → Array Value → Prop} {Post : Pt → Array Value → Option Value → Pt → Prop} {PostX : Pt → Array Value → Addr → Pt → Prop} (hK : vx_Back l R p e below s args y 3 W9 Pre Post PostX)
    {g : JFrame} (hg : g.method = m) (hsize : g.locals.size = c.maxLocals) {a : Addr} {argsL rest : List Value} (hlen : ∀ sig, parseMethodDescriptor y.desc = some sig → argsL.length = sig.parameters.length)
    (hstack : g.stack = argsL.reverse ++ .ref a :: rest) (hW : 2 * g.monitorRoom + (rest.map fun v => v.category).sum ≤ W9) (hdg : decode c.code g.pc = .ok (.invokespecial index, 3))
    (hpre : ∀ vm₁, s.WarmedH vm₁ → Pre ⟨T.setVm vm₁, locs, cells, slots⟩ (Value.ref a :: argsL).toArray) :
    (∃ (v : Option Value) (vm₁ : Vm) (B : Pt), s.WarmedH vm₁ ∧ Stand p l e R s m args below meth c B.U B.locs B.cells B.slots ∧ Post ⟨T.setVm vm₁, locs, cells, slots⟩ (Value.ref a :: argsL).toArray v B ∧
      ∀ target, Steps p.tables e below (B.U.setTop { g with pc := g.pc + 3, stack := v.toList ++ rest }) target → Steps p.tables e below (T.setTop g) target) ∨
    (∃ (q : Addr) (vm₁ : Vm) (B : Pt), s.WarmedH vm₁ ∧ Stand p l e R s m args below meth c B.U B.locs B.cells B.slots ∧ PostX ⟨T.setVm vm₁, locs, cells, slots⟩ (Value.ref a :: argsL).toArray q B ∧
      Steps p.tables e below (T.setTop g) ((B.U.setTop { g with stack := rest }).pushFrame (.throwing q))) := by
  subst hg
  have hpl : e.platform.magicAccessors = ({} : Platform).magicAccessors := by rw [X.admits.platform]
  obtain ⟨mk, methM, cM, kP, vm₁, hnamed, hmethM, hcodeM, -, hlocalsM, -, hkP, -, hW₁, hstep₁⟩ := Steps.initColdArgs (e := e) X.here hexec X.warmed hpl hown hy1 hy hlink hinst hcode (f := g) rfl hlen hstack hdg
  have X₁ := X.noted hW₁
  rcases hK g.method meth c ⟨T.setVm vm₁, locs, cells, slots⟩ { g with stack := rest } (.invokespecial index) mk (Value.ref a :: argsL).toArray X₁ rfl hsize hdg hW (X₁.named hnamed) (hpre vm₁ X₁.warmed) with ⟨v, B, X', hpost, hsteps⟩ | ⟨q, B, X', hpost, hsteps⟩
  · exact Or.inl ⟨v, vm₁, B, X₁.warmed, X', hpost, fun target h => hstep₁ _ fun acts => by rw [doInvoke_state]; exact hsteps.trans h⟩
  · exact Or.inr ⟨q, vm₁, B, X₁.warmed, X', hpost, hstep₁ _ fun acts => by rw [doInvoke_state]; exact hsteps⟩
end VXIA
section VXIB
variable {p : Program} {l : Launch} {e : Env} {R : Room} {s : State} {m : MethodId} {args : Array Value} {below : List Frame} {meth : Method} {c : Code} {H : Heap} {locs : List Loc} {cells slots : Nat}
variable {y : MethodName} {bytes cc : ByteArray} {maxL nL mc ms n index : Nat} {ret : Option FieldType} {ws : List Cond} {rm : Room} {Pc : Array Value → State → Prop} {Qc : Array Value → State → Outcome → State → Prop} {XC : String → State → State → Prop} {free : Addr → Prop} {Ts : List Cond} {own C : String} {b : Addr} {As rest : List Value} {g : JFrame}
theorem vx_runI (S : CallFix p m c cc nL s args Ts own) (hM : vx_Met l y ws rm Pc Qc XC mc ms free) (cw : CallB R s args own index y bytes maxL none ws rm mc ms n ∧ y.name = "<init>" ∧ (Cond.instanceMethod y).before args s = true) (hp : PreS s H Pc (.ref b :: As))
    (hg : g.method = m) (hn : As.length = n) (hsize : g.locals.size = nL) (hstack : g.stack = As.reverse ++ .ref b :: rest) (hW : 2 * g.monitorRoom + (rest.map fun v => v.category).sum ≤ 8) (hdg : decode cc g.pc = .ok (.invokespecial index, 3)) (hf : cells + mc ≤ R.cells ∧ slots + ms ≤ R.slots) :
    vx_Run p l e R s m args below meth c H locs cells slots mc ms g rest (Qc (Value.ref b :: As).toArray) XC free := by
  have hK : vx_Back l R p e below s args y 3 8 (PreOf R mc ms Pc) (PostOf Qc mc ms free) (vx_Post XC mc ms free) := vx_callBack cw.1 hM hp.1
  obtain ⟨⟨-, -, -, -, -, -, hcode, -, hy, hlen, hl⟩, hy1, hin⟩ := cw
  obtain ⟨hx, hb, hml, ho, -⟩ := S
  have hPc := hp.2
  intro T hT X
  rcases vx_callI X hx (bytes := bytes) (maxL := maxL) ho hy1 hl hin hcode hy hK hg (hsize.trans hml.symm) (a := b) (argsL := As) (rest := rest) (fun sig h => hn.trans (hlen sig h)) hstack hW (by rw [hb]; exact hdg)
    (fun vm₁ hW₁ => ⟨hf.1, hf.2, hPc (T.setVm vm₁) hT hW₁⟩) with ⟨v, vm₁, ⟨U', l2, c2, s2⟩, hW₁, X', ⟨g', mk, t, L, e1, e2, hq, h1, hL, h2, h3⟩, st⟩ | ⟨q, vm₁, ⟨U', l2, c2, s2⟩, hW₁, X', ⟨g', mk, t, L, E, ce, e1, e2, hq, hce, hcv, hcl, h1, hL, h2, h3⟩, st⟩
  · dsimp only [Pt.U, Pt.locs, Pt.cells, Pt.slots] at X' e1 e2 h1 h2 h3 st
    subst h1; subst h2; subst h3
    exact Or.inl ⟨v, (T.setVm vm₁).calling g' mk (Value.ref b :: As).toArray, t, U', L, hT, X', hL, e1, e2, hq, st⟩
  · dsimp only [Pt.U, Pt.locs, Pt.cells, Pt.slots] at X' e1 e2 h1 h2 h3 st hcl
    subst h1; subst h2; subst h3
    exact Or.inr ⟨q, (T.setVm vm₁).calling g' mk (Value.ref b :: As).toArray, t, U', L, E, ce, hT, X', hL, e1, e2, hq, hce, hcv, vx_cls hW₁ hcl, st⟩
end VXIB
/-! ===== END ===== -/
/-! ===== BEGIN a private constructor of a nest mate that throws ===== -/
section VXIC
variable {p : Program} {l : Launch} {e : Env} {R : Room} {s : State} {m : MethodId} {args : Array Value} {below : List Frame} {meth : Method} {c : Code} {T : State} {locs : List Loc} {cells slots : Nat}
theorem vx_callIN (X : Stand p l e R s m args below meth c T locs cells slots) (hexec : p.tables.exec = Jvm.exec) {own : String} {index : Nat} {host : String} {y : MethodName} {bytes : ByteArray} {maxL : Nat}
    (hown : s.vm.findClass own = some m.cls) (hy1 : y.name = "<init>") (hlink : (Cond.methodLinkNest own index y host).before args s = true) (hinst : (Cond.instanceMethod y).before args s = true)
    (hcode : (Cond.code y bytes maxL none).before args s = true) (hy : y.cls ≠ "java/lang/invoke/MethodHandle" ∧ y.cls ≠ "java/lang/invoke/VarHandle")
    {W9 : Nat} {Pre : Pt → Array Value → Prop} {Post : Pt → Array Value → Option Value → Pt → Prop} {PostX : Pt → Array Value → Addr → Pt → Prop} (hK : vx_Back l R p e below s args y 3 W9 Pre Post PostX)
    {g : JFrame} (hg : g.method = m) (hsize : g.locals.size = c.maxLocals) {a : Addr} {argsL rest : List Value} (hlen : ∀ sig, parseMethodDescriptor y.desc = some sig → argsL.length = sig.parameters.length)
    (hstack : g.stack = argsL.reverse ++ .ref a :: rest) (hW : 2 * g.monitorRoom + (rest.map fun v => v.category).sum ≤ W9) (hdg : decode c.code g.pc = .ok (.invokespecial index, 3))
    (hpre : ∀ vm₁, s.WarmedH vm₁ → Pre ⟨T.setVm vm₁, locs, cells, slots⟩ (Value.ref a :: argsL).toArray) :
    (∃ (v : Option Value) (vm₁ : Vm) (B : Pt), s.WarmedH vm₁ ∧ Stand p l e R s m args below meth c B.U B.locs B.cells B.slots ∧ Post ⟨T.setVm vm₁, locs, cells, slots⟩ (Value.ref a :: argsL).toArray v B ∧
      ∀ target, Steps p.tables e below (B.U.setTop { g with pc := g.pc + 3, stack := v.toList ++ rest }) target → Steps p.tables e below (T.setTop g) target) ∨
    (∃ (q : Addr) (vm₁ : Vm) (B : Pt), s.WarmedH vm₁ ∧ Stand p l e R s m args below meth c B.U B.locs B.cells B.slots ∧ PostX ⟨T.setVm vm₁, locs, cells, slots⟩ (Value.ref a :: argsL).toArray q B ∧
      Steps p.tables e below (T.setTop g) ((B.U.setTop { g with stack := rest }).pushFrame (.throwing q))) := by
  subst hg
  have hpl : e.platform.magicAccessors = ({} : Platform).magicAccessors := by rw [X.admits.platform]
  obtain ⟨mk, methM, cM, kP, vm₁, hnamed, hmethM, hcodeM, -, hlocalsM, -, hkP, -, hW₁, hstep₁⟩ := Steps.initColdArgsNest (e := e) X.here hexec X.warmed hpl hown hy1 hy hlink hinst hcode (f := g) rfl hlen hstack hdg
  have X₁ := X.noted hW₁
  rcases hK g.method meth c ⟨T.setVm vm₁, locs, cells, slots⟩ { g with stack := rest } (.invokespecial index) mk (Value.ref a :: argsL).toArray X₁ rfl hsize hdg hW (X₁.named hnamed) (hpre vm₁ X₁.warmed) with ⟨v, B, X', hpost, hsteps⟩ | ⟨q, B, X', hpost, hsteps⟩
  · exact Or.inl ⟨v, vm₁, B, X₁.warmed, X', hpost, fun target h => hstep₁ _ fun acts => by rw [doInvoke_state]; exact hsteps.trans h⟩
  · exact Or.inr ⟨q, vm₁, B, X₁.warmed, X', hpost, hstep₁ _ fun acts => by rw [doInvoke_state]; exact hsteps⟩
end VXIC
section VXID
variable {p : Program} {l : Launch} {e : Env} {R : Room} {s : State} {m : MethodId} {args : Array Value} {below : List Frame} {meth : Method} {c : Code} {H : Heap} {locs : List Loc} {cells slots : Nat}
theorem vx_runIN {y : MethodName} {bytes cc : ByteArray} {maxL nL mc ms n index : Nat} {ws : List Cond} {rm : Room} {Pc : Array Value → State → Prop} {Qc : Array Value → State → Outcome → State → Prop} {XC : String → State → State → Prop} {free : Addr → Prop} {Ts : List Cond} {own host : String} {b : Addr} {As rest : List Value} {g : JFrame}
    (S : CallFix p m c cc nL s args Ts own) (hM : vx_Met l y ws rm Pc Qc XC mc ms free) (cw : va_CN R s args own index y host bytes maxL none ws rm mc ms n ∧ y.name = "<init>" ∧ (Cond.instanceMethod y).before args s = true) (hp : PreS s H Pc (.ref b :: As))
    (hg : g.method = m) (hn : As.length = n) (hsize : g.locals.size = nL) (hstack : g.stack = As.reverse ++ .ref b :: rest) (hW : 2 * g.monitorRoom + (rest.map fun v => v.category).sum ≤ 8) (hdg : decode cc g.pc = .ok (.invokespecial index, 3)) (hf : cells + mc ≤ R.cells ∧ slots + ms ≤ R.slots) :
    vx_Run p l e R s m args below meth c H locs cells slots mc ms g rest (Qc (Value.ref b :: As).toArray) XC free := by
  obtain ⟨⟨⟨hrc, hrs, hfr, hlo, hws, hcw⟩, hcode, hini, hy, hlen, hl⟩, hx1, hx2⟩ := cw
  have hK : vx_Back l R p e below s args y 3 8 (PreOf R mc ms Pc) (PostOf Qc mc ms free) (vx_Post XC mc ms free) := vx_back (bytes := bytes) (maxL := maxL) (ret := none) hM hp.1 hrc hrs hfr hlo hws hcw (fun a' U hW => word_at hW (Or.inl (by first | rfl | simp [Cond.onTables, Cond.keeps, Cond.steady])) hini)
  obtain ⟨hx, hb, hml, ho, -⟩ := S
  have hPc := hp.2
  intro T hT X
  rcases vx_callIN X hx (bytes := bytes) (maxL := maxL) ho hx1 hl hx2 hcode hy hK hg (hsize.trans hml.symm) (a := b) (argsL := As) (rest := rest) (fun sig h => hn.trans (hlen sig h)) hstack hW (by rw [hb]; exact hdg)
    (fun vm₁ hW₁ => ⟨hf.1, hf.2, hPc (T.setVm vm₁) hT hW₁⟩) with ⟨v, vm₁, ⟨U', l2, c2, s2⟩, hW₁, X', ⟨g', mk, t, L, e1, e2, hq, h1, hL, h2, h3⟩, st⟩ | ⟨q, vm₁, ⟨U', l2, c2, s2⟩, hW₁, X', ⟨g', mk, t, L, E, ce, e1, e2, hq, hce, hcv, hcl, h1, hL, h2, h3⟩, st⟩
  · dsimp only [Pt.U, Pt.locs, Pt.cells, Pt.slots] at X' e1 e2 h1 h2 h3 st
    subst h1; subst h2; subst h3
    exact Or.inl ⟨v, (T.setVm vm₁).calling g' mk (Value.ref b :: As).toArray, t, U', L, hT, X', hL, e1, e2, hq, st⟩
  · dsimp only [Pt.U, Pt.locs, Pt.cells, Pt.slots] at X' e1 e2 h1 h2 h3 st hcl
    subst h1; subst h2; subst h3
    exact Or.inr ⟨q, (T.setVm vm₁).calling g' mk (Value.ref b :: As).toArray, t, U', L, E, ce, hT, X', hL, e1, e2, hq, hce, hcv, vx_cls hW₁ hcl, st⟩
end VXID
/-! ===== END ===== -/
/-! ===== BEGIN a method of a class above, found by the receiver, that may throw (follows va_callVU, va_runU of this kit) ===== -/
section
variable {p : Program} {l : Launch} {e : Env} {R : Room} {s : State} {m : MethodId} {args : Array Value} {below : List Frame} {meth : Method} {c : Code} {H : Heap} {locs : List Loc} {cells slots : Nat}
theorem vx_callVU {T : State} {locs : List Loc} {cells slots : Nat} (X : Stand p l e R s m args below meth c T locs cells slots) (hexec : p.tables.exec = Jvm.exec) {own C owner : String} {index : Nat} {x y : MethodName} {bytes : ByteArray} {maxL : Nat} {ret : Option FieldType}
    (hown : s.vm.findClass own = some m.cls) (hlink : (Cond.methodLink own index x).before args s = true) (hsame : (Cond.sameMethod x.cls owner x.name x.desc).before args s = true)
    (hd0 : va_Decl s ⟨owner, x.name, x.desc⟩) (howner : owner ≠ "java/lang/invoke/MethodHandle" ∧ owner ≠ "java/lang/invoke/VarHandle")
    (hsel : (Cond.selects C x y).before args s = true) (hinst : (Cond.instanceMethod y).before args s = true) (hcode : (Cond.code y bytes maxL ret).before args s = true)
    {W : Nat} {Pre : Pt → Array Value → Prop} {Post : Pt → Array Value → Option Value → Pt → Prop} {PostX : Pt → Array Value → Addr → Pt → Prop} (hK : vx_Back l R p e below s args y 3 W Pre Post PostX)
    {b : Addr} {cellB : Cell} (hcell : T.heap[b]? = some cellB) (hobj : cellB.vm.isStatics = false) (hcls : s.vm.findClass C = some cellB.cls)
    {g : JFrame} (hg : g.method = m) (hsize : g.locals.size = c.maxLocals) {argsL rest : List Value} (hlen : ∀ sig, parseMethodDescriptor x.desc = some sig → argsL.length = sig.parameters.length)
    (hstack : g.stack = argsL.reverse ++ .ref b :: rest) (hW : 2 * g.monitorRoom + (rest.map fun v => v.category).sum ≤ W) (hdg : decode c.code g.pc = .ok (.invokevirtual index, 3))
    (hpre : ∀ vm₁, s.WarmedH vm₁ → Pre ⟨T.setVm vm₁, locs, cells, slots⟩ (Value.ref b :: argsL).toArray) :
    (∃ (v : Option Value) (vm₁ : Vm) (B : Pt), s.WarmedH vm₁ ∧ Stand p l e R s m args below meth c B.U B.locs B.cells B.slots ∧ Post ⟨T.setVm vm₁, locs, cells, slots⟩ (Value.ref b :: argsL).toArray v B ∧
      ∀ target, Steps p.tables e below (B.U.setTop { g with pc := g.pc + 3, stack := v.toList ++ rest }) target → Steps p.tables e below (T.setTop g) target) ∨
    (∃ (q : Addr) (vm₁ : Vm) (B : Pt), s.WarmedH vm₁ ∧ Stand p l e R s m args below meth c B.U B.locs B.cells B.slots ∧ PostX ⟨T.setVm vm₁, locs, cells, slots⟩ (Value.ref b :: argsL).toArray q B ∧
      Steps p.tables e below (T.setTop g) ((B.U.setTop { g with stack := rest }).pushFrame (.throwing q))) := by
  obtain ⟨r0, r, hn, hrm, hstR, hsigR⟩ := hd0
  obtain ⟨cn, ck, r1, hcn, hck, hni, hf, hn1⟩ := Cond.sameMethod_found hsame
  cases hn.symm.trans hn1
  obtain ⟨mk, methM, hnamed, hmethM, -, habM⟩ := Cond.instanceMethod_spec hinst
  obtain ⟨c2, r2, m2, q1, q2, q3, q4, kP, hkP, hkPi⟩ := Cond.selects_spec hsel
  cases hcls.symm.trans q1
  cases hf.symm.trans q2
  cases hnamed.symm.trans q3
  have hselP : selectMethod e.platform s.vm cellB.cls r0 = .method mk := by rw [Launch.admits_selectMethod X.admits]; exact q4
  obtain ⟨vm₁, X₁, hstep₁⟩ := X.invokevirtualUp hexec hown hlink hsame howner hn hrm hstR (a := b) (cell := cellB) hcell
    (fun z h => by rw [h] at hobj; cases hobj) hselP hmethM habM hkP hkPi (g := g) hg (argsL := argsL) (rest := rest) (hlen _ hsigR) hstack hdg
  rcases hK m meth c ⟨T.setVm vm₁, locs, cells, slots⟩ { g with stack := rest } (.invokevirtual index) mk (Value.ref b :: argsL).toArray X₁ hg hsize hdg hW (X₁.named hnamed) (hpre vm₁ X₁.warmed) with ⟨v, B, X', hpost, hsteps⟩ | ⟨q, B, X', hpost, hsteps⟩
  · exact Or.inl ⟨v, vm₁, B, X₁.warmed, X', hpost, fun target h => hstep₁ _ fun acts => by rw [doInvoke_state]; exact hsteps.trans h⟩
  · exact Or.inr ⟨q, vm₁, B, X₁.warmed, X', hpost, hstep₁ _ fun acts => by rw [doInvoke_state]; exact hsteps⟩
theorem vx_runU {x y : MethodName} {bytes cc : ByteArray} {maxL nL mc ms n index : Nat} {ret : Option FieldType} {ws : List Cond} {rm : Room} {Pc : Array Value → State → Prop} {Qc : Array Value → State → Outcome → State → Prop} {XC : String → State → State → Prop} {free : Addr → Prop} {Ts : List Cond} {own C owner : String} {b : Addr} {As rest : List Value} {g : JFrame}
    (S : CallFix p m c cc nL s args Ts own) (hM : vx_Met l y ws rm Pc Qc XC mc ms free) (cw : va_CU R s args own C owner index x y bytes maxL ret ws rm mc ms n) (hp : PreV s H C b Pc As)
    (hg : g.method = m) (hn : As.length = n) (hsize : g.locals.size = nL) (hstack : g.stack = As.reverse ++ .ref b :: rest) (hW : 2 * g.monitorRoom + (rest.map fun v => v.category).sum ≤ 8) (hdg : decode cc g.pc = .ok (.invokevirtual index, 3)) (hf : cells + mc ≤ R.cells ∧ slots + ms ≤ R.slots) :
    vx_Run p l e R s m args below meth c H locs cells slots mc ms g rest (Qc (Value.ref b :: As).toArray) XC free := by
  obtain ⟨hrc, hrs, hfr, hlo, hws, hcw⟩ := cw.back
  have hini := cw.init
  have hK : vx_Back l R p e below s args y 3 8 (PreOf R mc ms Pc) (PostOf Qc mc ms free) (vx_Post XC mc ms free) := vx_back (bytes := bytes) (maxL := maxL) (ret := ret) hM hp.1 hrc hrs hfr hlo hws hcw (fun a' U hW => word_at hW (Or.inl (by first | rfl | simp [Cond.onTables, Cond.keeps, Cond.steady])) hini)
  obtain ⟨hx, hb, hml, ho, -⟩ := S
  obtain ⟨-, ⟨cellB, hcB, hoB, hclB⟩, hPc⟩ := hp
  intro T hT X
  rcases vx_callVU X hx (C := C) (owner := owner) (bytes := bytes) (maxL := maxL) (ret := ret) ho cw.link cw.same cw.decl cw.notMH cw.sel cw.inst cw.code hK (by rw [hT]; exact hcB) hoB hclB hg (hsize.trans hml.symm) (argsL := As) (rest := rest) (fun sig h => hn.trans (cw.len sig h)) hstack hW (by rw [hb]; exact hdg)
    (fun vm₁ hW₁ => ⟨hf.1, hf.2, hPc (T.setVm vm₁) hT hW₁⟩) with ⟨v, vm₁, ⟨U', l2, c2, s2⟩, hW₁, X', ⟨g', mk, t, L, e1, e2, hq, h1, hL, h2, h3⟩, st⟩ | ⟨q, vm₁, ⟨U', l2, c2, s2⟩, hW₁, X', ⟨g', mk, t, L, E, ce, e1, e2, hq, hce, hcv, hcl, h1, hL, h2, h3⟩, st⟩
  · dsimp only [Pt.U, Pt.locs, Pt.cells, Pt.slots] at X' e1 e2 h1 h2 h3 st
    subst h1; subst h2; subst h3
    exact Or.inl ⟨v, (T.setVm vm₁).calling g' mk (Value.ref b :: As).toArray, t, U', L, hT, X', hL, e1, e2, hq, st⟩
  · dsimp only [Pt.U, Pt.locs, Pt.cells, Pt.slots] at X' e1 e2 h1 h2 h3 st hcl
    subst h1; subst h2; subst h3
    exact Or.inr ⟨q, (T.setVm vm₁).calling g' mk (Value.ref b :: As).toArray, t, U', L, E, ce, hT, X', hL, e1, e2, hq, hce, hcv, vx_cls hW₁ hcl, st⟩
end
/-! ===== END ===== -/
/-! ===== BEGIN super.m(..) that may throw (follows va_callSU, va_runSU) ===== -/
section
variable {p : Program} {l : Launch} {e : Env} {R : Room} {s : State} {m : MethodId} {args : Array Value} {below : List Frame} {meth : Method} {c : Code} {H : Heap} {locs : List Loc} {cells slots : Nat}
theorem vx_callSU {T : State} {locs : List Loc} {cells slots : Nat} (X : Stand p l e R s m args below meth c T locs cells slots) (hexec : p.tables.exec = Jvm.exec) {own : String} {index : Nat} {y : MethodName} {bytes : ByteArray} {maxL : Nat} {ret : Option FieldType}
    (hown : s.vm.findClass own = some m.cls) (hlink : (Cond.methodLink own index y).before args s = true) (hsame : (Cond.sameMethod y.cls y.cls y.name y.desc).before args s = true) (hsup : (Cond.superclass own y.cls).before args s = true)
    (hinst : (Cond.instanceMethod y).before args s = true) (hcode : (Cond.code y bytes maxL ret).before args s = true) (hno : y.name ≠ "<init>")
    {W : Nat} {Pre : Pt → Array Value → Prop} {Post : Pt → Array Value → Option Value → Pt → Prop} {PostX : Pt → Array Value → Addr → Pt → Prop} (hK : vx_Back l R p e below s args y 3 W Pre Post PostX)
    {b : Addr} {cellB : Cell} {kB : Class} (hcell : T.heap[b]? = some cellB) (hobj : cellB.vm.isStatics = false) (hkB : s.vm.classes[cellB.cls]? = some kB)
    {g : JFrame} (hg : g.method = m) (hsize : g.locals.size = c.maxLocals) {argsL rest : List Value} (hlen : ∀ sig, parseMethodDescriptor y.desc = some sig → argsL.length = sig.parameters.length)
    (hstack : g.stack = argsL.reverse ++ .ref b :: rest) (hW : 2 * g.monitorRoom + (rest.map fun v => v.category).sum ≤ W) (hdg : decode c.code g.pc = .ok (.invokespecial index, 3))
    (hpre : ∀ vm₁, s.WarmedH vm₁ → Pre ⟨T.setVm vm₁, locs, cells, slots⟩ (Value.ref b :: argsL).toArray) :
    (∃ (v : Option Value) (vm₁ : Vm) (B : Pt), s.WarmedH vm₁ ∧ Stand p l e R s m args below meth c B.U B.locs B.cells B.slots ∧ Post ⟨T.setVm vm₁, locs, cells, slots⟩ (Value.ref b :: argsL).toArray v B ∧
      ∀ target, Steps p.tables e below (B.U.setTop { g with pc := g.pc + 3, stack := v.toList ++ rest }) target → Steps p.tables e below (T.setTop g) target) ∨
    (∃ (q : Addr) (vm₁ : Vm) (B : Pt), s.WarmedH vm₁ ∧ Stand p l e R s m args below meth c B.U B.locs B.cells B.slots ∧ PostX ⟨T.setVm vm₁, locs, cells, slots⟩ (Value.ref b :: argsL).toArray q B ∧
      Steps p.tables e below (T.setTop g) ((B.U.setTop { g with stack := rest }).pushFrame (.throwing q))) := by
  obtain ⟨mk, methM, hnamed, hmethM, hstM, habM⟩ := Cond.instanceMethod_spec hinst
  obtain ⟨methM', cM, hmethM', -, -, -, -, -, -, hsigM⟩ := Cond.code_spec hnamed hcode
  cases hmethM.symm.trans hmethM'
  obtain ⟨ps, dk, kp, hps, hdk, hkp, hsuper, -, -, hnid⟩ := Cond.superclass_spec hown hsup
  have hn : s.methodNamed? ⟨y.cls, y.name, y.desc⟩ = some mk := hnamed
  have hpm : ps = mk.cls := Option.some.inj (hps.symm.trans (findClass_of_methodNamed hnamed))
  have hsub : s.vm.isSubclass ps mk.cls = true := by rw [hpm]; simp [Vm.isSubclass, Vm.isSubclassAux]
  obtain ⟨vm₁, X₁, hstep₁⟩ := X.invokespecialUp hexec hown hlink hsame hn hmethM hstM habM hno hdk hnid hps hsuper hsub (a := b) (cell := cellB) hcell
    (fun z h => by rw [h] at hobj; cases hobj) hkB (g := g) hg (argsL := argsL) (rest := rest) (hlen _ hsigM) hstack hdg
  rcases hK m meth c ⟨T.setVm vm₁, locs, cells, slots⟩ { g with stack := rest } (.invokespecial index) mk (Value.ref b :: argsL).toArray X₁ hg hsize hdg hW (X₁.named hnamed) (hpre vm₁ X₁.warmed) with ⟨v, B, X', hpost, hsteps⟩ | ⟨q, B, X', hpost, hsteps⟩
  · exact Or.inl ⟨v, vm₁, B, X₁.warmed, X', hpost, fun target h => hstep₁ _ (by rw [doInvoke_state]; exact hsteps.trans h)⟩
  · exact Or.inr ⟨q, vm₁, B, X₁.warmed, X', hpost, hstep₁ _ (by rw [doInvoke_state]; exact hsteps)⟩
theorem vx_runSU {y : MethodName} {bytes cc : ByteArray} {maxL nL mc ms n index : Nat} {ret : Option FieldType} {ws : List Cond} {rm : Room} {Pc : Array Value → State → Prop} {Qc : Array Value → State → Outcome → State → Prop} {XC : String → State → State → Prop} {free : Addr → Prop} {Ts : List Cond} {own C : String} {cC : ClassId} {b : Addr} {As rest : List Value} {g : JFrame}
    (hat : ClassAt s C cC) (S : CallFix p m c cc nL s args Ts own) (hM : vx_Met l y ws rm Pc Qc XC mc ms free) (cw : va_CS R s args own index y bytes maxL ret ws rm mc ms n) (hp : PreV s H C b Pc As)
    (hg : g.method = m) (hn : As.length = n) (hsize : g.locals.size = nL) (hstack : g.stack = As.reverse ++ .ref b :: rest) (hW : 2 * g.monitorRoom + (rest.map fun v => v.category).sum ≤ 8) (hdg : decode cc g.pc = .ok (.invokespecial index, 3)) (hf : cells + mc ≤ R.cells ∧ slots + ms ≤ R.slots) :
    vx_Run p l e R s m args below meth c H locs cells slots mc ms g rest (Qc (Value.ref b :: As).toArray) XC free := by
  obtain ⟨⟨hrc, hrs, hfr, hlo, hws, hcw⟩, hl1, hl2, hl3, hl4, hini, hcode, hno, hlen⟩ := cw
  have hK : vx_Back l R p e below s args y 3 8 (PreOf R mc ms Pc) (PostOf Qc mc ms free) (vx_Post XC mc ms free) := vx_back (bytes := bytes) (maxL := maxL) (ret := ret) hM hp.1 hrc hrs hfr hlo hws hcw (fun a' U hW => word_at hW (Or.inl (by first | rfl | simp [Cond.onTables, Cond.keeps, Cond.steady])) hini)
  obtain ⟨hx, hb, hml, ho, -⟩ := S
  obtain ⟨-, ⟨cellB, hcB, hoB, hclB⟩, hPc⟩ := hp
  obtain ⟨hfc, kB, hkB, -⟩ := hat
  cases hfc.symm.trans hclB
  intro T hT X
  rcases vx_callSU X hx (bytes := bytes) (maxL := maxL) (ret := ret) ho hl1 hl2 hl3 hl4 hcode hno hK (by rw [hT]; exact hcB) hoB hkB hg (hsize.trans hml.symm) (argsL := As) (rest := rest) (fun sig h => hn.trans (hlen sig h)) hstack hW (by rw [hb]; exact hdg)
    (fun vm₁ hW₁ => ⟨hf.1, hf.2, hPc (T.setVm vm₁) hT hW₁⟩) with ⟨v, vm₁, ⟨U', l2, c2, s2⟩, hW₁, X', ⟨g', mk, t, L, e1, e2, hq, h1, hL, h2, h3⟩, st⟩ | ⟨q, vm₁, ⟨U', l2, c2, s2⟩, hW₁, X', ⟨g', mk, t, L, E, ce, e1, e2, hq, hce, hcv, hcl, h1, hL, h2, h3⟩, st⟩
  · dsimp only [Pt.U, Pt.locs, Pt.cells, Pt.slots] at X' e1 e2 h1 h2 h3 st
    subst h1; subst h2; subst h3
    exact Or.inl ⟨v, (T.setVm vm₁).calling g' mk (Value.ref b :: As).toArray, t, U', L, hT, X', hL, e1, e2, hq, st⟩
  · dsimp only [Pt.U, Pt.locs, Pt.cells, Pt.slots] at X' e1 e2 h1 h2 h3 st hcl
    subst h1; subst h2; subst h3
    exact Or.inr ⟨q, (T.setVm vm₁).calling g' mk (Value.ref b :: As).toArray, t, U', L, E, ce, hT, X', hL, e1, e2, hq, hce, hcv, vx_cls hW₁ hcl, st⟩
end
/-! ===== END ===== -/
/-! ===== BEGIN a private method of a nest mate that may throw (follows va_callVN, va_callSN, va_runVN, va_runSN) ===== -/
section
variable {p : Program} {l : Launch} {e : Env} {R : Room} {s : State} {m : MethodId} {args : Array Value} {below : List Frame} {meth : Method} {c : Code} {H : Heap} {locs : List Loc} {cells slots : Nat}
variable {T : State}
theorem vx_callVN (X : Stand p l e R s m args below meth c T locs cells slots) (hexec : p.tables.exec = Jvm.exec) {own C : String} {index : Nat} {host : String} {y : MethodName} {bytes : ByteArray} {maxL : Nat} {ret : Option FieldType}
    (hown : s.vm.findClass own = some m.cls) (hlink : (Cond.methodLinkNest own index y host).before args s = true) (hinst : (Cond.instanceMethod y).before args s = true) (hsel : (Cond.selects C y y).before args s = true)
    (hcode : (Cond.code y bytes maxL ret).before args s = true) (hy : y.cls ≠ "java/lang/invoke/MethodHandle" ∧ y.cls ≠ "java/lang/invoke/VarHandle")
    {W : Nat} {Pre : Pt → Array Value → Prop} {Post : Pt → Array Value → Option Value → Pt → Prop} {PostX : Pt → Array Value → Addr → Pt → Prop} (hK : vx_Back l R p e below s args y 3 W Pre Post PostX)
    {b : Addr} {cellB : Cell} (hcell : T.heap[b]? = some cellB) (hobj : cellB.vm.isStatics = false) (hcls : s.vm.findClass C = some cellB.cls)
    {g : JFrame} (hg : g.method = m) (hsize : g.locals.size = c.maxLocals) {argsL rest : List Value} (hlen : ∀ sig, parseMethodDescriptor y.desc = some sig → argsL.length = sig.parameters.length)
    (hstack : g.stack = argsL.reverse ++ .ref b :: rest) (hW : 2 * g.monitorRoom + (rest.map fun v => v.category).sum ≤ W) (hdg : decode c.code g.pc = .ok (.invokevirtual index, 3))
    (hpre : ∀ vm₁, s.WarmedH vm₁ → Pre ⟨T.setVm vm₁, locs, cells, slots⟩ (Value.ref b :: argsL).toArray) :
    (∃ (v : Option Value) (vm₁ : Vm) (B : Pt), s.WarmedH vm₁ ∧ Stand p l e R s m args below meth c B.U B.locs B.cells B.slots ∧ Post ⟨T.setVm vm₁, locs, cells, slots⟩ (Value.ref b :: argsL).toArray v B ∧
      ∀ target, Steps p.tables e below (B.U.setTop { g with pc := g.pc + 3, stack := v.toList ++ rest }) target → Steps p.tables e below (T.setTop g) target) ∨
    (∃ (q : Addr) (vm₁ : Vm) (B : Pt), s.WarmedH vm₁ ∧ Stand p l e R s m args below meth c B.U B.locs B.cells B.slots ∧ PostX ⟨T.setVm vm₁, locs, cells, slots⟩ (Value.ref b :: argsL).toArray q B ∧
      Steps p.tables e below (T.setTop g) ((B.U.setTop { g with stack := rest }).pushFrame (.throwing q))) := by
  obtain ⟨mk, methM, hnamed, hmethM, hstM, habM⟩ := Cond.instanceMethod_spec hinst
  obtain ⟨methM', cM, hmethM', -, -, -, -, -, -, hsigM⟩ := Cond.code_spec hnamed hcode
  cases hmethM.symm.trans hmethM'
  obtain ⟨c2, r2, m2, q1, q2, q3, q4, kP, hkP, hkPi⟩ := Cond.selects_spec hsel
  cases hcls.symm.trans q1
  cases (State.methodFound?_of_named hnamed hy).symm.trans q2
  cases hnamed.symm.trans q3
  have hselP : selectMethod e.platform s.vm cellB.cls mk = .method mk := by rw [Launch.admits_selectMethod X.admits]; exact q4
  obtain ⟨vm₁, X₁, hstep₁⟩ := X.invokevirtualNest hexec hown hlink hnamed hmethM hstM hkP hkPi hy (a := b) (cell := cellB) hcell
    (fun z h => by rw [h] at hobj; cases hobj) hselP hmethM habM hkP hkPi (g := g) hg (argsL := argsL) (rest := rest) (hlen _ hsigM) hstack hdg
  rcases hK m meth c ⟨T.setVm vm₁, locs, cells, slots⟩ { g with stack := rest } (.invokevirtual index) mk (Value.ref b :: argsL).toArray X₁ hg hsize hdg hW (X₁.named hnamed) (hpre vm₁ X₁.warmed) with ⟨v, B, X', hpost, hsteps⟩ | ⟨q, B, X', hpost, hsteps⟩
  · exact Or.inl ⟨v, vm₁, B, X₁.warmed, X', hpost, fun target h => hstep₁ _ fun acts => by rw [doInvoke_state]; exact hsteps.trans h⟩
  · exact Or.inr ⟨q, vm₁, B, X₁.warmed, X', hpost, hstep₁ _ fun acts => by rw [doInvoke_state]; exact hsteps⟩
theorem vx_callSN (X : Stand p l e R s m args below meth c T locs cells slots) (hexec : p.tables.exec = Jvm.exec) {own : String} {index : Nat} {host : String} {y : MethodName} {bytes : ByteArray} {maxL : Nat} {ret : Option FieldType}
    (hown : s.vm.findClass own = some m.cls) (hlink : (Cond.methodLinkNest own index y host).before args s = true) (hstat : (Cond.static y).before args s = true) (hinit : (Cond.initialized y.cls).before args s = true)
    (hcode : (Cond.code y bytes maxL ret).before args s = true) (hy : y.cls ≠ "java/lang/invoke/MethodHandle" ∧ y.cls ≠ "java/lang/invoke/VarHandle")
    {W : Nat} {Pre : Pt → Array Value → Prop} {Post : Pt → Array Value → Option Value → Pt → Prop} {PostX : Pt → Array Value → Addr → Pt → Prop} (hK : vx_Back l R p e below s args y 3 W Pre Post PostX)
    {g : JFrame} (hg : g.method = m) (hsize : g.locals.size = c.maxLocals) {argsL rest : List Value} (hlen : ∀ sig, parseMethodDescriptor y.desc = some sig → argsL.length = sig.parameters.length)
    (hstack : g.stack = argsL.reverse ++ rest) (hW : 2 * g.monitorRoom + (rest.map fun v => v.category).sum ≤ W) (hdg : decode c.code g.pc = .ok (.invokestatic index, 3))
    (hpre : ∀ vm₁, s.WarmedH vm₁ → Pre ⟨T.setVm vm₁, locs, cells, slots⟩ argsL.toArray) :
    (∃ (v : Option Value) (vm₁ : Vm) (B : Pt), s.WarmedH vm₁ ∧ Stand p l e R s m args below meth c B.U B.locs B.cells B.slots ∧ Post ⟨T.setVm vm₁, locs, cells, slots⟩ argsL.toArray v B ∧
      ∀ target, Steps p.tables e below (B.U.setTop { g with pc := g.pc + 3, stack := v.toList ++ rest }) target → Steps p.tables e below (T.setTop g) target) ∨
    (∃ (q : Addr) (vm₁ : Vm) (B : Pt), s.WarmedH vm₁ ∧ Stand p l e R s m args below meth c B.U B.locs B.cells B.slots ∧ PostX ⟨T.setVm vm₁, locs, cells, slots⟩ argsL.toArray q B ∧
      Steps p.tables e below (T.setTop g) ((B.U.setTop { g with stack := rest }).pushFrame (.throwing q))) := by
  obtain ⟨mk, hnamed⟩ := Cond.code_named hcode
  obtain ⟨methM, cM, hmethM, -, -, -, -, -, -, hsigM⟩ := Cond.code_spec hnamed hcode
  have hstatic : methM.isStatic = true := Cond.static_spec hnamed hmethM hstat
  obtain ⟨kP, hkP, -⟩ := className_of_methodNamed hnamed
  have hinitP : kP.init = .initialized := Cond.initialized_spec (findClass_of_methodNamed hnamed) hkP hinit
  obtain ⟨vm₁, X₁, hstep₁⟩ := X.invokestaticNest hexec hown hlink hnamed hmethM hstatic hkP hinitP hy (g := g) hg (argsL := argsL) (rest := rest) (hlen _ hsigM) hstack hdg
  rcases hK m meth c ⟨T.setVm vm₁, locs, cells, slots⟩ { g with stack := rest } (.invokestatic index) mk argsL.toArray X₁ hg hsize hdg hW (X₁.named hnamed) (hpre vm₁ X₁.warmed) with ⟨v, B, X', hpost, hsteps⟩ | ⟨q, B, X', hpost, hsteps⟩
  · exact Or.inl ⟨v, vm₁, B, X₁.warmed, X', hpost, fun target h => hstep₁ _ fun acts => by rw [doInvoke_state]; exact hsteps.trans h⟩
  · exact Or.inr ⟨q, vm₁, B, X₁.warmed, X', hpost, hstep₁ _ fun acts => by rw [doInvoke_state]; exact hsteps⟩
theorem vx_runVN {y : MethodName} {bytes cc : ByteArray} {maxL nL mc ms n index : Nat} {ret : Option FieldType} {ws : List Cond} {rm : Room} {Pc : Array Value → State → Prop} {Qc : Array Value → State → Outcome → State → Prop} {XC : String → State → State → Prop} {free : Addr → Prop} {Ts : List Cond} {own C host : String} {b : Addr} {As rest : List Value} {g : JFrame}
    (S : CallFix p m c cc nL s args Ts own) (hM : vx_Met l y ws rm Pc Qc XC mc ms free) (cw : va_CN R s args own index y host bytes maxL ret ws rm mc ms n ∧ (Cond.instanceMethod y).before args s = true ∧ (Cond.selects C y y).before args s = true) (hp : PreV s H C b Pc As)
    (hg : g.method = m) (hn : As.length = n) (hsize : g.locals.size = nL) (hstack : g.stack = As.reverse ++ .ref b :: rest) (hW : 2 * g.monitorRoom + (rest.map fun v => v.category).sum ≤ 8) (hdg : decode cc g.pc = .ok (.invokevirtual index, 3)) (hf : cells + mc ≤ R.cells ∧ slots + ms ≤ R.slots) :
    vx_Run p l e R s m args below meth c H locs cells slots mc ms g rest (Qc (Value.ref b :: As).toArray) XC free := by
  obtain ⟨⟨⟨hrc, hrs, hfr, hlo, hws, hcw⟩, hcode, hini, hy, hlen, hl⟩, hx1, hx2⟩ := cw
  have hK : vx_Back l R p e below s args y 3 8 (PreOf R mc ms Pc) (PostOf Qc mc ms free) (vx_Post XC mc ms free) := vx_back (bytes := bytes) (maxL := maxL) (ret := ret) hM hp.1 hrc hrs hfr hlo hws hcw (fun a' U hW => word_at hW (Or.inl (by first | rfl | simp [Cond.onTables, Cond.keeps, Cond.steady])) hini)
  obtain ⟨hx, hb, hml, ho, -⟩ := S
  obtain ⟨-, ⟨cellB, hcB, hoB, hclB⟩, hPc⟩ := hp
  intro T hT X
  rcases vx_callVN X hx (C := C) (bytes := bytes) (maxL := maxL) (ret := ret) ho hl hx1 hx2 hcode hy hK (by rw [hT]; exact hcB) hoB hclB hg (hsize.trans hml.symm) (argsL := As) (rest := rest) (fun sig h => hn.trans (hlen sig h)) hstack hW (by rw [hb]; exact hdg)
    (fun vm₁ hW₁ => ⟨hf.1, hf.2, hPc (T.setVm vm₁) hT hW₁⟩) with ⟨v, vm₁, ⟨U', l2, c2, s2⟩, hW₁, X', ⟨g', mk, t, L, e1, e2, hq, h1, hL, h2, h3⟩, st⟩ | ⟨q, vm₁, ⟨U', l2, c2, s2⟩, hW₁, X', ⟨g', mk, t, L, E, ce, e1, e2, hq, hce, hcv, hcl, h1, hL, h2, h3⟩, st⟩
  · dsimp only [Pt.U, Pt.locs, Pt.cells, Pt.slots] at X' e1 e2 h1 h2 h3 st
    subst h1; subst h2; subst h3
    exact Or.inl ⟨v, (T.setVm vm₁).calling g' mk (Value.ref b :: As).toArray, t, U', L, hT, X', hL, e1, e2, hq, st⟩
  · dsimp only [Pt.U, Pt.locs, Pt.cells, Pt.slots] at X' e1 e2 h1 h2 h3 st hcl
    subst h1; subst h2; subst h3
    exact Or.inr ⟨q, (T.setVm vm₁).calling g' mk (Value.ref b :: As).toArray, t, U', L, E, ce, hT, X', hL, e1, e2, hq, hce, hcv, vx_cls hW₁ hcl, st⟩
theorem vx_runSN {y : MethodName} {bytes cc : ByteArray} {maxL nL mc ms n index : Nat} {ret : Option FieldType} {ws : List Cond} {rm : Room} {Pc : Array Value → State → Prop} {Qc : Array Value → State → Outcome → State → Prop} {XC : String → State → State → Prop} {free : Addr → Prop} {Ts : List Cond} {own host : String} {As rest : List Value} {g : JFrame}
    (S : CallFix p m c cc nL s args Ts own) (hM : vx_Met l y ws rm Pc Qc XC mc ms free) (cw : va_CN R s args own index y host bytes maxL ret ws rm mc ms n ∧ (Cond.static y).before args s = true ∧ True) (hp : PreS s H Pc As)
    (hg : g.method = m) (hn : As.length = n) (hsize : g.locals.size = nL) (hstack : g.stack = As.reverse ++ rest) (hW : 2 * g.monitorRoom + (rest.map fun v => v.category).sum ≤ 8) (hdg : decode cc g.pc = .ok (.invokestatic index, 3)) (hf : cells + mc ≤ R.cells ∧ slots + ms ≤ R.slots) :
    vx_Run p l e R s m args below meth c H locs cells slots mc ms g rest (Qc As.toArray) XC free := by
  obtain ⟨⟨⟨hrc, hrs, hfr, hlo, hws, hcw⟩, hcode, hini, hy, hlen, hl⟩, hx1, hx2⟩ := cw
  have hK : vx_Back l R p e below s args y 3 8 (PreOf R mc ms Pc) (PostOf Qc mc ms free) (vx_Post XC mc ms free) := vx_back (bytes := bytes) (maxL := maxL) (ret := ret) hM hp.1 hrc hrs hfr hlo hws hcw (fun a' U hW => word_at hW (Or.inl (by first | rfl | simp [Cond.onTables, Cond.keeps, Cond.steady])) hini)
  obtain ⟨hx, hb, hml, ho, -⟩ := S
  have hPc := hp.2
  intro T hT X
  rcases vx_callSN X hx (bytes := bytes) (maxL := maxL) (ret := ret) ho hl hx1 hini hcode hy hK hg (hsize.trans hml.symm) (argsL := As) (rest := rest) (fun sig h => hn.trans (hlen sig h)) hstack hW (by rw [hb]; exact hdg)
    (fun vm₁ hW₁ => ⟨hf.1, hf.2, hPc (T.setVm vm₁) hT hW₁⟩) with ⟨v, vm₁, ⟨U', l2, c2, s2⟩, hW₁, X', ⟨g', mk, t, L, e1, e2, hq, h1, hL, h2, h3⟩, st⟩ | ⟨q, vm₁, ⟨U', l2, c2, s2⟩, hW₁, X', ⟨g', mk, t, L, E, ce, e1, e2, hq, hce, hcv, hcl, h1, hL, h2, h3⟩, st⟩
  · dsimp only [Pt.U, Pt.locs, Pt.cells, Pt.slots] at X' e1 e2 h1 h2 h3 st
    subst h1; subst h2; subst h3
    exact Or.inl ⟨v, (T.setVm vm₁).calling g' mk As.toArray, t, U', L, hT, X', hL, e1, e2, hq, st⟩
  · dsimp only [Pt.U, Pt.locs, Pt.cells, Pt.slots] at X' e1 e2 h1 h2 h3 st hcl
    subst h1; subst h2; subst h3
    exact Or.inr ⟨q, (T.setVm vm₁).calling g' mk As.toArray, t, U', L, E, ce, hT, X', hL, e1, e2, hq, hce, hcv, vx_cls hW₁ hcl, st⟩
end
/-! ===== END ===== -/
/-! ===== BEGIN calls by an interface of methods that may throw (vx_callIF, vx_runF follow va_callIF, va_runF of this kit) ===== -/
section
variable {p : Program} {l : Launch} {e : Env} {R : Room} {s : State} {m : MethodId} {args : Array Value} {below : List Frame} {meth : Method} {c : Code} {H : Heap} {locs : List Loc} {cells slots : Nat} {Q : State → Prop}
variable {mc ms : Nat} {free : Addr → Prop} {A0 A1 : Nat → Prop} {H0 : Heap} {a : Array Value} {pc : Nat} {ls : Array Slot} {st0 rest : List Value}
def vx_Run5 (p : Program) (l : Launch) (e : Env) (R : Room) (s : State) (m : MethodId) (args : Array Value) (below : List Frame) (meth : Method) (c : Code) (H : Heap) (locs : List Loc) (cells slots mc ms : Nat) (g : JFrame) (rest : List Value) (Qa : State → Outcome → State → Prop) (XC : String → State → State → Prop) (free : Addr → Prop) : Prop :=
  ∀ T : State, T.heap = H → Stand p l e R s m args below meth c T locs cells slots →
    (∃ (v : Option Value) (st₀ t T' : State) (L : List Loc), st₀.heap = H ∧ Stand p l e R s m args below meth c T' (locs ++ L) (cells + mc) (slots + ms) ∧ (∀ q ∈ L, free q.base) ∧ T'.heap = t.heap ∧ T'.vm = t.vm ∧ Qa st₀ (.returned v) t ∧
      Goes p e below T g T' { g with pc := g.pc + 5, stack := v.toList ++ rest }) ∨
    (∃ (q : Addr) (st₀ t T' : State) (L : List Loc) (E : String) (ce : Cell), st₀.heap = H ∧ Stand p l e R s m args below meth c T' (locs ++ L) (cells + mc) (slots + ms) ∧ (∀ z ∈ L, free z.base) ∧ T'.heap = t.heap ∧ T'.vm = t.vm ∧ XC E st₀ t ∧ t.heap[q]? = some ce ∧ ce.vm = .none ∧ s.vm.findClass E = some ce.cls ∧
      Steps p.tables e below (T.setTop g) ((T'.setTop { g with stack := rest }).pushFrame (.throwing q)))
theorem vx_callIF {T : State} (X : Stand p l e R s m args below meth c T locs cells slots) (hexec : p.tables.exec = Jvm.exec) {own C : String} {index count : Nat} {x y : MethodName} {bytes : ByteArray} {maxL : Nat} {ret : Option FieldType}
    (hown : s.vm.findClass own = some m.cls) (hlink : (Cond.methodLink own index x).before args s = true) (hdecl : (Cond.declares x).before args s = true) (hface : (Cond.interfaceMethod x.cls x.cls x.name x.desc).before args s = true)
    (hsel : (Cond.selects C x y).before args s = true) (hinst : (Cond.instanceMethod y).before args s = true) (hpub : (Cond.publicMethod y).before args s = true) (hunh : (Cond.unhidden C x.name x.desc).before args s = true)
    (hcast : (Cond.castable C x.cls).before args s = true) (hcode : (Cond.code y bytes maxL ret).before args s = true) (hx : x.cls ≠ "java/lang/invoke/MethodHandle" ∧ x.cls ≠ "java/lang/invoke/VarHandle")
    {W9 : Nat} {Pre : Pt → Array Value → Prop} {Post : Pt → Array Value → Option Value → Pt → Prop} {PostX : Pt → Array Value → Addr → Pt → Prop} (hK : vx_Back l R p e below s args y 5 W9 Pre Post PostX)
    {b : Addr} {cellB : Cell} {kB : Class} (hcell : T.heap[b]? = some cellB) (hobj : cellB.vm.isStatics = false) (hcls : s.vm.findClass C = some cellB.cls) (hkB : s.vm.classes[cellB.cls]? = some kB)
    {g : JFrame} (hg : g.method = m) (hsize : g.locals.size = c.maxLocals) {argsL rest : List Value} (hlen : ∀ sig, parseMethodDescriptor x.desc = some sig → argsL.length = sig.parameters.length)
    (hstack : g.stack = argsL.reverse ++ .ref b :: rest) (hW : 2 * g.monitorRoom + (rest.map fun v => v.category).sum ≤ W9) (hdg : decode c.code g.pc = .ok (.invokeinterface index count, 5))
    (hpre : ∀ vm₁, s.WarmedH vm₁ → Pre ⟨T.setVm vm₁, locs, cells, slots⟩ (Value.ref b :: argsL).toArray) :
    (∃ (v : Option Value) (vm₁ : Vm) (B : Pt), s.WarmedH vm₁ ∧ Stand p l e R s m args below meth c B.U B.locs B.cells B.slots ∧ Post ⟨T.setVm vm₁, locs, cells, slots⟩ (Value.ref b :: argsL).toArray v B ∧
      ∀ target, Steps p.tables e below (B.U.setTop { g with pc := g.pc + 5, stack := v.toList ++ rest }) target → Steps p.tables e below (T.setTop g) target) ∨
    (∃ (q : Addr) (vm₁ : Vm) (B : Pt), s.WarmedH vm₁ ∧ Stand p l e R s m args below meth c B.U B.locs B.cells B.slots ∧ PostX ⟨T.setVm vm₁, locs, cells, slots⟩ (Value.ref b :: argsL).toArray q B ∧
      Steps p.tables e below (T.setTop g) ((B.U.setTop { g with stack := rest }).pushFrame (.throwing q))) := by
  obtain ⟨r0, r, hn, hrm, hstR, hsigR⟩ := Cond.declares_spec hdecl
  obtain ⟨cL, kL, r1, hcL, hkL, hiL, hfoundL, hn1⟩ := Cond.interfaceMethod_spec hface
  cases hn.symm.trans hn1
  have hr0cls : r0.cls = cL := Option.some.inj ((findClass_of_methodNamed hn).symm.trans hcL)
  obtain ⟨hnameR, hdescR⟩ := name_of_methodNamed hn hrm
  obtain ⟨mk, methM, hnamed, hmethM, -, habM⟩ := Cond.instanceMethod_spec hinst
  obtain ⟨c2, r2, m2, q1, q2, q3, q4, -⟩ := Cond.selects_spec hsel
  cases hcls.symm.trans q1
  cases hfoundL.symm.trans q2
  cases hnamed.symm.trans q3
  have hselP : selectMethod e.platform s.vm cellB.cls r0 = .method mk := by rw [Launch.admits_selectMethod X.admits]; exact q4
  have hpubM : hasFlag methM.accessFlags Acc.public_ = true := Cond.publicMethod_spec hnamed hmethM hpub
  have hway : ((cellB.cls :: s.vm.superclasses cellB.cls).any fun k => (declaredIn s.vm r.name r.desc k).any fun (_, z) => z.isPrivate || z.isStatic) = false := by
    rw [hnameR, hdescR]; exact Cond.unhidden_spec hcls hunh
  obtain ⟨c3, t3, w1, w2, w3⟩ := Cond.castable_spec hcast
  cases hcls.symm.trans w1
  cases hcL.symm.trans w2
  obtain ⟨vm₁, X₁, hstep₁⟩ := X.invokeinterface hexec hown hlink hn hrm hstR (by rw [hr0cls]; exact hkL) hiL hx (a := b) (cell := cellB) (kcell := kB) hcell
    (fun z h => by rw [h] at hobj; cases hobj) hkB (by rw [hr0cls]; exact w3) hselP hmethM hway hpubM habM (g := g) hg (argsL := argsL) (rest := rest) (hlen _ hsigR) hstack hdg
  rcases hK m meth c ⟨T.setVm vm₁, locs, cells, slots⟩ { g with stack := rest } (.invokeinterface index count) mk (Value.ref b :: argsL).toArray X₁ hg hsize hdg hW (X₁.named hnamed) (hpre vm₁ X₁.warmed) with ⟨v, B, X', hpost, hsteps⟩ | ⟨q, B, X', hpost, hsteps⟩
  · exact Or.inl ⟨v, vm₁, B, X₁.warmed, X', hpost, fun target h => hstep₁ _ fun acts => by rw [doInvoke_state]; exact hsteps.trans h⟩
  · exact Or.inr ⟨q, vm₁, B, X₁.warmed, X', hpost, hstep₁ _ fun acts => by rw [doInvoke_state]; exact hsteps⟩
theorem vx_runF {x y : MethodName} {bytes cc : ByteArray} {maxL nL mc ms n index count : Nat} {ret : Option FieldType} {ws : List Cond} {rm : Room} {Pc : Array Value → State → Prop} {Qc : Array Value → State → Outcome → State → Prop} {XC : String → State → State → Prop} {free : Addr → Prop} {Ts : List Cond} {own C : String} {cC : ClassId} {b : Addr} {As rest : List Value} {g : JFrame}
    (hat : ClassAt s C cC) (S : CallFix p m c cc nL s args Ts own) (hM : vx_Met l y ws rm Pc Qc XC mc ms free) (cw : va_CI R s args own C index x y bytes maxL ret ws rm mc ms n) (hp : PreV s H C b Pc As)
    (hg : g.method = m) (hn : As.length = n) (hsize : g.locals.size = nL) (hstack : g.stack = As.reverse ++ .ref b :: rest) (hW : 2 * g.monitorRoom + (rest.map fun v => v.category).sum ≤ 8) (hdg : decode cc g.pc = .ok (.invokeinterface index count, 5)) (hf : cells + mc ≤ R.cells ∧ slots + ms ≤ R.slots) :
    vx_Run5 p l e R s m args below meth c H locs cells slots mc ms g rest (Qc (Value.ref b :: As).toArray) XC free := by
  obtain ⟨hrc, hrs, hfr, hlo, hws, hcw⟩ := cw.back
  have hini := cw.init
  have hK : vx_Back l R p e below s args y 5 8 (PreOf R mc ms Pc) (PostOf Qc mc ms free) (vx_Post XC mc ms free) := vx_back (bytes := bytes) (maxL := maxL) (ret := ret) hM hp.1 hrc hrs hfr hlo hws hcw (fun a' U hW => word_at hW (Or.inl (by first | rfl | simp [Cond.onTables, Cond.keeps, Cond.steady])) hini)
  obtain ⟨hx, hb, hml, ho, -⟩ := S
  obtain ⟨-, ⟨cellB, hcB, hoB, hclB⟩, hPc⟩ := hp
  obtain ⟨hfc, kB, hkB, -⟩ := hat
  cases hfc.symm.trans hclB
  intro T hT X
  rcases vx_callIF X hx (C := C) (bytes := bytes) (maxL := maxL) (ret := ret) ho cw.link cw.decl cw.face cw.sel cw.inst cw.pub cw.unh cw.cast cw.code cw.notMH hK (by rw [hT]; exact hcB) hoB hclB hkB hg (hsize.trans hml.symm) (argsL := As) (rest := rest) (fun sig h => hn.trans (cw.len sig h)) hstack hW (by rw [hb]; exact hdg)
    (fun vm₁ hW₁ => ⟨hf.1, hf.2, hPc (T.setVm vm₁) hT hW₁⟩) with ⟨v, vm₁, ⟨U', l2, c2, s2⟩, hW₁, X', ⟨g', mk, t, L, e1, e2, hq, h1, hL, h2, h3⟩, st⟩ | ⟨q, vm₁, ⟨U', l2, c2, s2⟩, hW₁, X', ⟨g', mk, t, L, E, ce, e1, e2, hq, hce, hcv, hcl, h1, hL, h2, h3⟩, st⟩
  · dsimp only [Pt.U, Pt.locs, Pt.cells, Pt.slots] at X' e1 e2 h1 h2 h3 st
    subst h1; subst h2; subst h3
    exact Or.inl ⟨v, (T.setVm vm₁).calling g' mk (Value.ref b :: As).toArray, t, U', L, hT, X', hL, e1, e2, hq, st⟩
  · dsimp only [Pt.U, Pt.locs, Pt.cells, Pt.slots] at X' e1 e2 h1 h2 h3 st hcl
    subst h1; subst h2; subst h3
    exact Or.inr ⟨q, (T.setVm vm₁).calling g' mk (Value.ref b :: As).toArray, t, U', L, E, ce, hT, X', hL, e1, e2, hq, hce, hcv, vx_cls hW₁ hcl, st⟩
theorem vx_callFv {S SX : Type} {post : S → Prop} {px : SX → Prop} {B : S → State → Prop} {BX : String → SX → State → Prop} {AX : Nat → Prop} (hr : vx_Run5 p l e R s m args below meth c H locs cells slots mc ms (F0 m pc ls st0) rest (va_Qv post B A1 a) (vx_X px BX AX) free) (hS : va_S A0 H0 H locs) (hA : ∀ q, q < H.size → A1 q → A0 q) (hf : ∀ q, free q → A0 q) (hAX : ∀ q, q < H.size → AX q → A0 q)
    (kx : ∀ (E : String) (ce : Cell) (q9 : Addr) (u : SX) (t : State) (H1 : Heap) (locs1 : List Loc), t.heap = H1 → s.vm.Alike t.vm → px u → BX E u t → H.size ≤ H1.size → (∀ q : Nat, q < H.size → ¬ AX q → H1[q]? = H[q]?) → va_S A0 H0 H1 locs1 → H1[q9]? = some ce → ce.vm = .none → s.vm.findClass E = some ce.cls → vx_W p l e R s m args below meth c H1 locs1 (cells + mc) (slots + ms) Q (F0 m pc ls rest) q9)
    (kk : ∀ (u : S) (t : State) (H1 : Heap) (locs1 : List Loc), t.heap = H1 → s.vm.Alike t.vm → post u → B u t → H.size ≤ H1.size → (∀ q : Nat, q < H.size → ¬ A1 q → H1[q]? = H[q]?) → va_S A0 H0 H1 locs1 → W p l e R s m args below meth c H1 locs1 (cells + mc) (slots + ms) Q (F0 m (pc + 5) ls (rest))) : W p l e R s m args below meth c H locs cells slots Q (F0 m pc ls st0) := by
  intro T hT X
  rcases hr T hT X with ⟨v, st₀, t, T', L, h0, X', hL, e1, e2, ⟨⟨u, hv, hp, hb⟩, hF⟩, st⟩ | ⟨q, st₀, t, T', L, E, ce, h0, X', hL, e1, e2, ⟨u, hp, hb, hF⟩, hce, hcv, hcl, st⟩
  · cases hv
    obtain ⟨k1, k2, k3⟩ := vx_keep h0 e1 hS hA hf hL hF
    obtain ⟨t2, a1, b1⟩ := kk u t T'.heap (locs ++ L) e1.symm (by rw [← e2]; exact X'.warmed.alike) hp hb k1 k2 k3 T' rfl X'
    exact ⟨t2, st t2 a1, b1⟩
  · obtain ⟨k1, k2, k3⟩ := vx_keep h0 e1 hS hAX hf hL hF
    obtain ⟨t2, a1, b1⟩ := kx E ce q u t T'.heap (locs ++ L) e1.symm (by rw [← e2]; exact X'.warmed.alike) hp hb k1 k2 k3 (by rw [e1]; exact hce) hcv hcl T' rfl X'
    exact ⟨t2, st.trans a1, b1⟩
theorem vx_callFi {S SX : Type} {post : Int32 → S → Prop} {px : SX → Prop} {B : S → State → Prop} {BX : String → SX → State → Prop} {AX : Nat → Prop} (hr : vx_Run5 p l e R s m args below meth c H locs cells slots mc ms (F0 m pc ls st0) rest (va_Qi post B A1 a) (vx_X px BX AX) free) (hS : va_S A0 H0 H locs) (hA : ∀ q, q < H.size → A1 q → A0 q) (hf : ∀ q, free q → A0 q) (hAX : ∀ q, q < H.size → AX q → A0 q)
    (kx : ∀ (E : String) (ce : Cell) (q9 : Addr) (u : SX) (t : State) (H1 : Heap) (locs1 : List Loc), t.heap = H1 → s.vm.Alike t.vm → px u → BX E u t → H.size ≤ H1.size → (∀ q : Nat, q < H.size → ¬ AX q → H1[q]? = H[q]?) → va_S A0 H0 H1 locs1 → H1[q9]? = some ce → ce.vm = .none → s.vm.findClass E = some ce.cls → vx_W p l e R s m args below meth c H1 locs1 (cells + mc) (slots + ms) Q (F0 m pc ls rest) q9)
    (kk : ∀ (r : Int32) (u : S) (t : State) (H1 : Heap) (locs1 : List Loc), t.heap = H1 → s.vm.Alike t.vm → post r u → B u t → H.size ≤ H1.size → (∀ q : Nat, q < H.size → ¬ A1 q → H1[q]? = H[q]?) → va_S A0 H0 H1 locs1 → W p l e R s m args below meth c H1 locs1 (cells + mc) (slots + ms) Q (F0 m (pc + 5) ls (.int r :: rest))) : W p l e R s m args below meth c H locs cells slots Q (F0 m pc ls st0) := by
  intro T hT X
  rcases hr T hT X with ⟨v, st₀, t, T', L, h0, X', hL, e1, e2, ⟨⟨r, u, hv, hp, hb⟩, hF⟩, st⟩ | ⟨q, st₀, t, T', L, E, ce, h0, X', hL, e1, e2, ⟨u, hp, hb, hF⟩, hce, hcv, hcl, st⟩
  · cases hv
    obtain ⟨k1, k2, k3⟩ := vx_keep h0 e1 hS hA hf hL hF
    obtain ⟨t2, a1, b1⟩ := kk r u t T'.heap (locs ++ L) e1.symm (by rw [← e2]; exact X'.warmed.alike) hp hb k1 k2 k3 T' rfl X'
    exact ⟨t2, st t2 a1, b1⟩
  · obtain ⟨k1, k2, k3⟩ := vx_keep h0 e1 hS hAX hf hL hF
    obtain ⟨t2, a1, b1⟩ := kx E ce q u t T'.heap (locs ++ L) e1.symm (by rw [← e2]; exact X'.warmed.alike) hp hb k1 k2 k3 (by rw [e1]; exact hce) hcv hcl T' rfl X'
    exact ⟨t2, st.trans a1, b1⟩
theorem vx_callFl {S SX : Type} {post : Int64 → S → Prop} {px : SX → Prop} {B : S → State → Prop} {BX : String → SX → State → Prop} {AX : Nat → Prop} (hr : vx_Run5 p l e R s m args below meth c H locs cells slots mc ms (F0 m pc ls st0) rest (va_Ql post B A1 a) (vx_X px BX AX) free) (hS : va_S A0 H0 H locs) (hA : ∀ q, q < H.size → A1 q → A0 q) (hf : ∀ q, free q → A0 q) (hAX : ∀ q, q < H.size → AX q → A0 q)
    (kx : ∀ (E : String) (ce : Cell) (q9 : Addr) (u : SX) (t : State) (H1 : Heap) (locs1 : List Loc), t.heap = H1 → s.vm.Alike t.vm → px u → BX E u t → H.size ≤ H1.size → (∀ q : Nat, q < H.size → ¬ AX q → H1[q]? = H[q]?) → va_S A0 H0 H1 locs1 → H1[q9]? = some ce → ce.vm = .none → s.vm.findClass E = some ce.cls → vx_W p l e R s m args below meth c H1 locs1 (cells + mc) (slots + ms) Q (F0 m pc ls rest) q9)
    (kk : ∀ (r : Int64) (u : S) (t : State) (H1 : Heap) (locs1 : List Loc), t.heap = H1 → s.vm.Alike t.vm → post r u → B u t → H.size ≤ H1.size → (∀ q : Nat, q < H.size → ¬ A1 q → H1[q]? = H[q]?) → va_S A0 H0 H1 locs1 → W p l e R s m args below meth c H1 locs1 (cells + mc) (slots + ms) Q (F0 m (pc + 5) ls (.long r :: rest))) : W p l e R s m args below meth c H locs cells slots Q (F0 m pc ls st0) := by
  intro T hT X
  rcases hr T hT X with ⟨v, st₀, t, T', L, h0, X', hL, e1, e2, ⟨⟨r, u, hv, hp, hb⟩, hF⟩, st⟩ | ⟨q, st₀, t, T', L, E, ce, h0, X', hL, e1, e2, ⟨u, hp, hb, hF⟩, hce, hcv, hcl, st⟩
  · cases hv
    obtain ⟨k1, k2, k3⟩ := vx_keep h0 e1 hS hA hf hL hF
    obtain ⟨t2, a1, b1⟩ := kk r u t T'.heap (locs ++ L) e1.symm (by rw [← e2]; exact X'.warmed.alike) hp hb k1 k2 k3 T' rfl X'
    exact ⟨t2, st t2 a1, b1⟩
  · obtain ⟨k1, k2, k3⟩ := vx_keep h0 e1 hS hAX hf hL hF
    obtain ⟨t2, a1, b1⟩ := kx E ce q u t T'.heap (locs ++ L) e1.symm (by rw [← e2]; exact X'.warmed.alike) hp hb k1 k2 k3 (by rw [e1]; exact hce) hcv hcl T' rfl X'
    exact ⟨t2, st.trans a1, b1⟩
theorem vx_callFf {S SX : Type} {post : UInt32 → S → Prop} {px : SX → Prop} {B : S → State → Prop} {BX : String → SX → State → Prop} {AX : Nat → Prop} (hr : vx_Run5 p l e R s m args below meth c H locs cells slots mc ms (F0 m pc ls st0) rest (va_Qf post B A1 a) (vx_X px BX AX) free) (hS : va_S A0 H0 H locs) (hA : ∀ q, q < H.size → A1 q → A0 q) (hf : ∀ q, free q → A0 q) (hAX : ∀ q, q < H.size → AX q → A0 q)
    (kx : ∀ (E : String) (ce : Cell) (q9 : Addr) (u : SX) (t : State) (H1 : Heap) (locs1 : List Loc), t.heap = H1 → s.vm.Alike t.vm → px u → BX E u t → H.size ≤ H1.size → (∀ q : Nat, q < H.size → ¬ AX q → H1[q]? = H[q]?) → va_S A0 H0 H1 locs1 → H1[q9]? = some ce → ce.vm = .none → s.vm.findClass E = some ce.cls → vx_W p l e R s m args below meth c H1 locs1 (cells + mc) (slots + ms) Q (F0 m pc ls rest) q9)
    (kk : ∀ (r : UInt32) (u : S) (t : State) (H1 : Heap) (locs1 : List Loc), t.heap = H1 → s.vm.Alike t.vm → post r u → B u t → H.size ≤ H1.size → (∀ q : Nat, q < H.size → ¬ A1 q → H1[q]? = H[q]?) → va_S A0 H0 H1 locs1 → W p l e R s m args below meth c H1 locs1 (cells + mc) (slots + ms) Q (F0 m (pc + 5) ls (.float r :: rest))) : W p l e R s m args below meth c H locs cells slots Q (F0 m pc ls st0) := by
  intro T hT X
  rcases hr T hT X with ⟨v, st₀, t, T', L, h0, X', hL, e1, e2, ⟨⟨r, u, hv, hp, hb⟩, hF⟩, st⟩ | ⟨q, st₀, t, T', L, E, ce, h0, X', hL, e1, e2, ⟨u, hp, hb, hF⟩, hce, hcv, hcl, st⟩
  · cases hv
    obtain ⟨k1, k2, k3⟩ := vx_keep h0 e1 hS hA hf hL hF
    obtain ⟨t2, a1, b1⟩ := kk r u t T'.heap (locs ++ L) e1.symm (by rw [← e2]; exact X'.warmed.alike) hp hb k1 k2 k3 T' rfl X'
    exact ⟨t2, st t2 a1, b1⟩
  · obtain ⟨k1, k2, k3⟩ := vx_keep h0 e1 hS hAX hf hL hF
    obtain ⟨t2, a1, b1⟩ := kx E ce q u t T'.heap (locs ++ L) e1.symm (by rw [← e2]; exact X'.warmed.alike) hp hb k1 k2 k3 (by rw [e1]; exact hce) hcv hcl T' rfl X'
    exact ⟨t2, st.trans a1, b1⟩
theorem vx_callFd {S SX : Type} {post : UInt64 → S → Prop} {px : SX → Prop} {B : S → State → Prop} {BX : String → SX → State → Prop} {AX : Nat → Prop} (hr : vx_Run5 p l e R s m args below meth c H locs cells slots mc ms (F0 m pc ls st0) rest (va_Qd post B A1 a) (vx_X px BX AX) free) (hS : va_S A0 H0 H locs) (hA : ∀ q, q < H.size → A1 q → A0 q) (hf : ∀ q, free q → A0 q) (hAX : ∀ q, q < H.size → AX q → A0 q)
    (kx : ∀ (E : String) (ce : Cell) (q9 : Addr) (u : SX) (t : State) (H1 : Heap) (locs1 : List Loc), t.heap = H1 → s.vm.Alike t.vm → px u → BX E u t → H.size ≤ H1.size → (∀ q : Nat, q < H.size → ¬ AX q → H1[q]? = H[q]?) → va_S A0 H0 H1 locs1 → H1[q9]? = some ce → ce.vm = .none → s.vm.findClass E = some ce.cls → vx_W p l e R s m args below meth c H1 locs1 (cells + mc) (slots + ms) Q (F0 m pc ls rest) q9)
    (kk : ∀ (r : UInt64) (u : S) (t : State) (H1 : Heap) (locs1 : List Loc), t.heap = H1 → s.vm.Alike t.vm → post r u → B u t → H.size ≤ H1.size → (∀ q : Nat, q < H.size → ¬ A1 q → H1[q]? = H[q]?) → va_S A0 H0 H1 locs1 → W p l e R s m args below meth c H1 locs1 (cells + mc) (slots + ms) Q (F0 m (pc + 5) ls (.double r :: rest))) : W p l e R s m args below meth c H locs cells slots Q (F0 m pc ls st0) := by
  intro T hT X
  rcases hr T hT X with ⟨v, st₀, t, T', L, h0, X', hL, e1, e2, ⟨⟨r, u, hv, hp, hb⟩, hF⟩, st⟩ | ⟨q, st₀, t, T', L, E, ce, h0, X', hL, e1, e2, ⟨u, hp, hb, hF⟩, hce, hcv, hcl, st⟩
  · cases hv
    obtain ⟨k1, k2, k3⟩ := vx_keep h0 e1 hS hA hf hL hF
    obtain ⟨t2, a1, b1⟩ := kk r u t T'.heap (locs ++ L) e1.symm (by rw [← e2]; exact X'.warmed.alike) hp hb k1 k2 k3 T' rfl X'
    exact ⟨t2, st t2 a1, b1⟩
  · obtain ⟨k1, k2, k3⟩ := vx_keep h0 e1 hS hAX hf hL hF
    obtain ⟨t2, a1, b1⟩ := kx E ce q u t T'.heap (locs ++ L) e1.symm (by rw [← e2]; exact X'.warmed.alike) hp hb k1 k2 k3 (by rw [e1]; exact hce) hcv hcl T' rfl X'
    exact ⟨t2, st.trans a1, b1⟩
end
/-! ===== END ===== -/
/-! ===== BEGIN by an interface, a method with a table of its own that may throw (follows va_callIFW, va_runFW) ===== -/
section
variable {p : Program} {l : Launch} {e : Env} {R : Room} {s : State} {m : MethodId} {args : Array Value} {below : List Frame} {meth : Method} {c : Code} {H : Heap} {locs : List Loc} {cells slots : Nat}
theorem vx_callIFW {T : State} (X : Stand p l e R s m args below meth c T locs cells slots) (hexec : p.tables.exec = Jvm.exec) {own C : String} {index count : Nat} {x y : MethodName} {bytes : ByteArray} {maxL : Nat} {ret : Option FieldType} {hh : List (Nat × Nat × Nat × Nat)}
    (hown : s.vm.findClass own = some m.cls) (hlink : (Cond.methodLink own index x).before args s = true) (hdecl : (Cond.declares x).before args s = true) (hface : (Cond.interfaceMethod x.cls x.cls x.name x.desc).before args s = true)
    (hsel : (Cond.selects C x y).before args s = true) (hinst : (Cond.instanceMethod y).before args s = true) (hpub : (Cond.publicMethod y).before args s = true) (hunh : (Cond.unhidden C x.name x.desc).before args s = true)
    (hcast : (Cond.castable C x.cls).before args s = true) (hcode : (Cond.codeWith y bytes maxL ret hh).before args s = true) (hx : x.cls ≠ "java/lang/invoke/MethodHandle" ∧ x.cls ≠ "java/lang/invoke/VarHandle")
    {W : Nat} {Pre : Pt → Array Value → Prop} {Post : Pt → Array Value → Option Value → Pt → Prop} {PostX : Pt → Array Value → Addr → Pt → Prop} (hK : vx_Back l R p e below s args y 5 W Pre Post PostX)
    {b : Addr} {cellB : Cell} {kB : Class} (hcell : T.heap[b]? = some cellB) (hobj : cellB.vm.isStatics = false) (hcls : s.vm.findClass C = some cellB.cls) (hkB : s.vm.classes[cellB.cls]? = some kB)
    {g : JFrame} (hg : g.method = m) (hsize : g.locals.size = c.maxLocals) {argsL rest : List Value} (hlen : ∀ sig, parseMethodDescriptor x.desc = some sig → argsL.length = sig.parameters.length)
    (hstack : g.stack = argsL.reverse ++ .ref b :: rest) (hW : 2 * g.monitorRoom + (rest.map fun v => v.category).sum ≤ W) (hdg : decode c.code g.pc = .ok (.invokeinterface index count, 5))
    (hpre : ∀ vm₁, s.WarmedH vm₁ → Pre ⟨T.setVm vm₁, locs, cells, slots⟩ (Value.ref b :: argsL).toArray) :
    (∃ (v : Option Value) (vm₁ : Vm) (B : Pt), s.WarmedH vm₁ ∧ Stand p l e R s m args below meth c B.U B.locs B.cells B.slots ∧ Post ⟨T.setVm vm₁, locs, cells, slots⟩ (Value.ref b :: argsL).toArray v B ∧
      ∀ target, Steps p.tables e below (B.U.setTop { g with pc := g.pc + 5, stack := v.toList ++ rest }) target → Steps p.tables e below (T.setTop g) target) ∨
    (∃ (q : Addr) (vm₁ : Vm) (B : Pt), s.WarmedH vm₁ ∧ Stand p l e R s m args below meth c B.U B.locs B.cells B.slots ∧ PostX ⟨T.setVm vm₁, locs, cells, slots⟩ (Value.ref b :: argsL).toArray q B ∧
      Steps p.tables e below (T.setTop g) ((B.U.setTop { g with stack := rest }).pushFrame (.throwing q))) := by
  obtain ⟨r0, r, hn, hrm, hstR, hsigR⟩ := Cond.declares_spec hdecl
  obtain ⟨cL, kL, r1, hcL, hkL, hiL, hfoundL, hn1⟩ := Cond.interfaceMethod_spec hface
  cases hn.symm.trans hn1
  have hr0cls : r0.cls = cL := Option.some.inj ((findClass_of_methodNamed hn).symm.trans hcL)
  obtain ⟨hnameR, hdescR⟩ := name_of_methodNamed hn hrm
  obtain ⟨mk, methM, hnamed, hmethM, -, habM⟩ := Cond.instanceMethod_spec hinst
  obtain ⟨c2, r2, m2, q1, q2, q3, q4, -⟩ := Cond.selects_spec hsel
  cases hcls.symm.trans q1
  cases hfoundL.symm.trans q2
  cases hnamed.symm.trans q3
  have hselP : selectMethod e.platform s.vm cellB.cls r0 = .method mk := by rw [Launch.admits_selectMethod X.admits]; exact q4
  have hpubM : hasFlag methM.accessFlags Acc.public_ = true := Cond.publicMethod_spec hnamed hmethM hpub
  have hway : ((cellB.cls :: s.vm.superclasses cellB.cls).any fun k => (declaredIn s.vm r.name r.desc k).any fun (_, z) => z.isPrivate || z.isStatic) = false := by
    rw [hnameR, hdescR]; exact Cond.unhidden_spec hcls hunh
  obtain ⟨c3, t3, w1, w2, w3⟩ := Cond.castable_spec hcast
  cases hcls.symm.trans w1
  cases hcL.symm.trans w2
  obtain ⟨vm₁, X₁, hstep₁⟩ := X.invokeinterface hexec hown hlink hn hrm hstR (by rw [hr0cls]; exact hkL) hiL hx (a := b) (cell := cellB) (kcell := kB) hcell
    (fun z h => by rw [h] at hobj; cases hobj) hkB (by rw [hr0cls]; exact w3) hselP hmethM hway hpubM habM (g := g) hg (argsL := argsL) (rest := rest) (hlen _ hsigR) hstack hdg
  rcases hK m meth c ⟨T.setVm vm₁, locs, cells, slots⟩ { g with stack := rest } (.invokeinterface index count) mk (Value.ref b :: argsL).toArray X₁ hg hsize hdg hW (X₁.named hnamed) (hpre vm₁ X₁.warmed) with ⟨v, B, X', hpost, hsteps⟩ | ⟨q, B, X', hpost, hsteps⟩
  · exact Or.inl ⟨v, vm₁, B, X₁.warmed, X', hpost, fun target h => hstep₁ _ fun acts => by rw [doInvoke_state]; exact hsteps.trans h⟩
  · exact Or.inr ⟨q, vm₁, B, X₁.warmed, X', hpost, hstep₁ _ fun acts => by rw [doInvoke_state]; exact hsteps⟩
theorem vx_runFW {x y : MethodName} {bytes cc : ByteArray} {maxL nL mc ms n index count : Nat} {ret : Option FieldType} {hh : List (Nat × Nat × Nat × Nat)} {ws : List Cond} {rm : Room} {Pc : Array Value → State → Prop} {Qc : Array Value → State → Outcome → State → Prop} {XC : String → State → State → Prop} {free : Addr → Prop} {Ts : List Cond} {own C : String} {cC : ClassId} {b : Addr} {As rest : List Value} {g : JFrame}
    (hat : ClassAt s C cC) (S : CallFix p m c cc nL s args Ts own) (hM : vx_Met l y ws rm Pc Qc XC mc ms free) (cw : va_CIW R s args own C index x y bytes maxL ret hh ws rm mc ms n) (hp : PreV s H C b Pc As)
    (hg : g.method = m) (hn : As.length = n) (hsize : g.locals.size = nL) (hstack : g.stack = As.reverse ++ .ref b :: rest) (hW : 2 * g.monitorRoom + (rest.map fun v => v.category).sum ≤ 8) (hdg : decode cc g.pc = .ok (.invokeinterface index count, 5)) (hf : cells + mc ≤ R.cells ∧ slots + ms ≤ R.slots) :
    vx_Run5 p l e R s m args below meth c H locs cells slots mc ms g rest (Qc (Value.ref b :: As).toArray) XC free := by
  obtain ⟨hrc, hrs, hfr, hlo, hws, hcw⟩ := cw.back
  have hini := cw.init
  have hK : vx_Back l R p e below s args y 5 8 (PreOf R mc ms Pc) (PostOf Qc mc ms free) (vx_Post XC mc ms free) := vx_backW (hh := hh) (bytes := bytes) (maxL := maxL) (ret := ret) hM hp.1 hrc hrs hfr hlo hws hcw (fun a' U hW => word_at hW (Or.inl (by first | rfl | simp [Cond.onTables, Cond.keeps, Cond.steady])) hini)
  obtain ⟨hx, hb, hml, ho, -⟩ := S
  obtain ⟨-, ⟨cellB, hcB, hoB, hclB⟩, hPc⟩ := hp
  obtain ⟨hfc, kB, hkB, -⟩ := hat
  cases hfc.symm.trans hclB
  intro T hT X
  rcases vx_callIFW X hx (C := C) (hh := hh) (bytes := bytes) (maxL := maxL) (ret := ret) ho cw.link cw.decl cw.face cw.sel cw.inst cw.pub cw.unh cw.cast cw.code cw.notMH hK (by rw [hT]; exact hcB) hoB hclB hkB hg (hsize.trans hml.symm) (argsL := As) (rest := rest) (fun sig h => hn.trans (cw.len sig h)) hstack hW (by rw [hb]; exact hdg)
    (fun vm₁ hW₁ => ⟨hf.1, hf.2, hPc (T.setVm vm₁) hT hW₁⟩) with ⟨v, vm₁, ⟨U', l2, c2, s2⟩, hW₁, X', ⟨g', mk, t, L, e1, e2, hq, h1, hL, h2, h3⟩, st⟩ | ⟨q, vm₁, ⟨U', l2, c2, s2⟩, hW₁, X', ⟨g', mk, t, L, E, ce, e1, e2, hq, hce, hcv, hcl, h1, hL, h2, h3⟩, st⟩
  · dsimp only [Pt.U, Pt.locs, Pt.cells, Pt.slots] at X' e1 e2 h1 h2 h3 st
    subst h1; subst h2; subst h3
    exact Or.inl ⟨v, (T.setVm vm₁).calling g' mk (Value.ref b :: As).toArray, t, U', L, hT, X', hL, e1, e2, hq, st⟩
  · dsimp only [Pt.U, Pt.locs, Pt.cells, Pt.slots] at X' e1 e2 h1 h2 h3 st hcl
    subst h1; subst h2; subst h3
    exact Or.inr ⟨q, (T.setVm vm₁).calling g' mk (Value.ref b :: As).toArray, t, U', L, E, ce, hT, X', hL, e1, e2, hq, hce, hcv, vx_cls hW₁ hcl, st⟩
end
/-! ===== END ===== -/
/-! ===== BEGIN .. of methods that hand back an object of the pool ===== -/
section
variable {p : Program} {l : Launch} {e : Env} {R : Room} {s : State} {m : MethodId} {args : Array Value} {below : List Frame} {meth : Method} {c : Code} {H : Heap} {locs : List Loc} {cells slots : Nat} {Q : State → Prop}
variable {mc ms : Nat} {free : Addr → Prop} {A0 A1 : Nat → Prop} {H0 : Heap} {a : Array Value} {pc : Nat} {ls : Array Slot} {st0 rest : List Value}
theorem vx_callq {S SX : Type} {post : Option Nat → S → Prop} {px : SX → Prop} {B : S → State → Prop} {BX : String → SX → State → Prop} {AX : Nat → Prop} (hr : vx_Run p l e R s m args below meth c H locs cells slots mc ms (F0 m pc ls st0) rest (va_Qq post B A1 a) (vx_X px BX AX) free) (hS : va_S A0 H0 H locs) (hA : ∀ q, q < H.size → A1 q → A0 q) (hf : ∀ q, free q → A0 q) (hAX : ∀ q, q < H.size → AX q → A0 q)
    (kx : ∀ (E : String) (ce : Cell) (q9 : Addr) (u : SX) (t : State) (H1 : Heap) (locs1 : List Loc), t.heap = H1 → s.vm.Alike t.vm → px u → BX E u t → H.size ≤ H1.size → (∀ q : Nat, q < H.size → ¬ AX q → H1[q]? = H[q]?) → va_S A0 H0 H1 locs1 → H1[q9]? = some ce → ce.vm = .none → s.vm.findClass E = some ce.cls → vx_W p l e R s m args below meth c H1 locs1 (cells + mc) (slots + ms) Q (F0 m pc ls rest) q9)
    (kk : ∀ (r : Option Nat) (u : S) (t : State) (H1 : Heap) (locs1 : List Loc), t.heap = H1 → s.vm.Alike t.vm → post r u → B u t → H.size ≤ H1.size → (∀ q : Nat, q < H.size → ¬ A1 q → H1[q]? = H[q]?) → va_S A0 H0 H1 locs1 → W p l e R s m args below meth c H1 locs1 (cells + mc) (slots + ms) Q (F0 m (pc + 3) ls (va_rf r :: rest))) : W p l e R s m args below meth c H locs cells slots Q (F0 m pc ls st0) := by
  intro T hT X
  rcases hr T hT X with ⟨v, st₀, t, T', L, h0, X', hL, e1, e2, ⟨⟨r, u, hv, hp, hb⟩, hF⟩, st⟩ | ⟨q, st₀, t, T', L, E, ce, h0, X', hL, e1, e2, ⟨u, hp, hb, hF⟩, hce, hcv, hcl, st⟩
  · cases hv
    obtain ⟨k1, k2, k3⟩ := vx_keep h0 e1 hS hA hf hL hF
    obtain ⟨t2, a1, b1⟩ := kk r u t T'.heap (locs ++ L) e1.symm (by rw [← e2]; exact X'.warmed.alike) hp hb k1 k2 k3 T' rfl X'
    exact ⟨t2, st t2 a1, b1⟩
  · obtain ⟨k1, k2, k3⟩ := vx_keep h0 e1 hS hAX hf hL hF
    obtain ⟨t2, a1, b1⟩ := kx E ce q u t T'.heap (locs ++ L) e1.symm (by rw [← e2]; exact X'.warmed.alike) hp hb k1 k2 k3 (by rw [e1]; exact hce) hcv hcl T' rfl X'
    exact ⟨t2, st.trans a1, b1⟩
end
/-! ===== END ===== -/
/-! ===== BEGIN .. a constant ===== -/
section
variable {p : Program} {l : Launch} {e : Env} {R : Room} {s : State} {m : MethodId} {args : Array Value} {below : List Frame} {meth : Method} {c : Code} {H : Heap} {locs : List Loc} {cells slots : Nat} {Q : State → Prop}
variable {mc ms : Nat} {free : Addr → Prop} {A0 A1 : Nat → Prop} {H0 : Heap} {a : Array Value} {pc : Nat} {ls : Array Slot} {st0 rest : List Value}
theorem vx_calle {ad : Nat → Nat} {S SX : Type} {post : Option Nat → S → Prop} {px : SX → Prop} {B : S → State → Prop} {BX : String → SX → State → Prop} {AX : Nat → Prop} (hr : vx_Run p l e R s m args below meth c H locs cells slots mc ms (F0 m pc ls st0) rest (va_Qe ad post B A1 a) (vx_X px BX AX) free) (hS : va_S A0 H0 H locs) (hA : ∀ q, q < H.size → A1 q → A0 q) (hf : ∀ q, free q → A0 q) (hAX : ∀ q, q < H.size → AX q → A0 q)
    (kx : ∀ (E : String) (ce : Cell) (q9 : Addr) (u : SX) (t : State) (H1 : Heap) (locs1 : List Loc), t.heap = H1 → s.vm.Alike t.vm → px u → BX E u t → H.size ≤ H1.size → (∀ q : Nat, q < H.size → ¬ AX q → H1[q]? = H[q]?) → va_S A0 H0 H1 locs1 → H1[q9]? = some ce → ce.vm = .none → s.vm.findClass E = some ce.cls → vx_W p l e R s m args below meth c H1 locs1 (cells + mc) (slots + ms) Q (F0 m pc ls rest) q9)
    (kk : ∀ (r : Option Nat) (u : S) (t : State) (H1 : Heap) (locs1 : List Loc), t.heap = H1 → s.vm.Alike t.vm → post r u → B u t → H.size ≤ H1.size → (∀ q : Nat, q < H.size → ¬ A1 q → H1[q]? = H[q]?) → va_S A0 H0 H1 locs1 → W p l e R s m args below meth c H1 locs1 (cells + mc) (slots + ms) Q (F0 m (pc + 3) ls (va_re ad r :: rest))) : W p l e R s m args below meth c H locs cells slots Q (F0 m pc ls st0) := by
  intro T hT X
  rcases hr T hT X with ⟨v, st₀, t, T', L, h0, X', hL, e1, e2, ⟨⟨r, u, hv, hp, hb⟩, hF⟩, st⟩ | ⟨q, st₀, t, T', L, E, ce, h0, X', hL, e1, e2, ⟨u, hp, hb, hF⟩, hce, hcv, hcl, st⟩
  · cases hv
    obtain ⟨k1, k2, k3⟩ := vx_keep h0 e1 hS hA hf hL hF
    obtain ⟨t2, a1, b1⟩ := kk r u t T'.heap (locs ++ L) e1.symm (by rw [← e2]; exact X'.warmed.alike) hp hb k1 k2 k3 T' rfl X'
    exact ⟨t2, st t2 a1, b1⟩
  · obtain ⟨k1, k2, k3⟩ := vx_keep h0 e1 hS hAX hf hL hF
    obtain ⟨t2, a1, b1⟩ := kx E ce q u t T'.heap (locs ++ L) e1.symm (by rw [← e2]; exact X'.warmed.alike) hp hb k1 k2 k3 (by rw [e1]; exact hce) hcv hcl T' rfl X'
    exact ⟨t2, st.trans a1, b1⟩
end
/-! ===== END ===== -/
/-! ===== BEGIN .. by an interface, an object ===== -/
section
variable {p : Program} {l : Launch} {e : Env} {R : Room} {s : State} {m : MethodId} {args : Array Value} {below : List Frame} {meth : Method} {c : Code} {H : Heap} {locs : List Loc} {cells slots : Nat} {Q : State → Prop}
variable {mc ms : Nat} {free : Addr → Prop} {A0 A1 : Nat → Prop} {H0 : Heap} {a : Array Value} {pc : Nat} {ls : Array Slot} {st0 rest : List Value}
theorem vx_callFq {S SX : Type} {post : Option Nat → S → Prop} {px : SX → Prop} {B : S → State → Prop} {BX : String → SX → State → Prop} {AX : Nat → Prop} (hr : vx_Run5 p l e R s m args below meth c H locs cells slots mc ms (F0 m pc ls st0) rest (va_Qq post B A1 a) (vx_X px BX AX) free) (hS : va_S A0 H0 H locs) (hA : ∀ q, q < H.size → A1 q → A0 q) (hf : ∀ q, free q → A0 q) (hAX : ∀ q, q < H.size → AX q → A0 q)
    (kx : ∀ (E : String) (ce : Cell) (q9 : Addr) (u : SX) (t : State) (H1 : Heap) (locs1 : List Loc), t.heap = H1 → s.vm.Alike t.vm → px u → BX E u t → H.size ≤ H1.size → (∀ q : Nat, q < H.size → ¬ AX q → H1[q]? = H[q]?) → va_S A0 H0 H1 locs1 → H1[q9]? = some ce → ce.vm = .none → s.vm.findClass E = some ce.cls → vx_W p l e R s m args below meth c H1 locs1 (cells + mc) (slots + ms) Q (F0 m pc ls rest) q9)
    (kk : ∀ (r : Option Nat) (u : S) (t : State) (H1 : Heap) (locs1 : List Loc), t.heap = H1 → s.vm.Alike t.vm → post r u → B u t → H.size ≤ H1.size → (∀ q : Nat, q < H.size → ¬ A1 q → H1[q]? = H[q]?) → va_S A0 H0 H1 locs1 → W p l e R s m args below meth c H1 locs1 (cells + mc) (slots + ms) Q (F0 m (pc + 5) ls (va_rf r :: rest))) : W p l e R s m args below meth c H locs cells slots Q (F0 m pc ls st0) := by
  intro T hT X
  rcases hr T hT X with ⟨v, st₀, t, T', L, h0, X', hL, e1, e2, ⟨⟨r, u, hv, hp, hb⟩, hF⟩, st⟩ | ⟨q, st₀, t, T', L, E, ce, h0, X', hL, e1, e2, ⟨u, hp, hb, hF⟩, hce, hcv, hcl, st⟩
  · cases hv
    obtain ⟨k1, k2, k3⟩ := vx_keep h0 e1 hS hA hf hL hF
    obtain ⟨t2, a1, b1⟩ := kk r u t T'.heap (locs ++ L) e1.symm (by rw [← e2]; exact X'.warmed.alike) hp hb k1 k2 k3 T' rfl X'
    exact ⟨t2, st t2 a1, b1⟩
  · obtain ⟨k1, k2, k3⟩ := vx_keep h0 e1 hS hAX hf hL hF
    obtain ⟨t2, a1, b1⟩ := kx E ce q u t T'.heap (locs ++ L) e1.symm (by rw [← e2]; exact X'.warmed.alike) hp hb k1 k2 k3 (by rw [e1]; exact hce) hcv hcl T' rfl X'
    exact ⟨t2, st.trans a1, b1⟩
end
/-! ===== END ===== -/
/-! ===== BEGIN .. by an interface, a constant ===== -/
section
variable {p : Program} {l : Launch} {e : Env} {R : Room} {s : State} {m : MethodId} {args : Array Value} {below : List Frame} {meth : Method} {c : Code} {H : Heap} {locs : List Loc} {cells slots : Nat} {Q : State → Prop}
variable {mc ms : Nat} {free : Addr → Prop} {A0 A1 : Nat → Prop} {H0 : Heap} {a : Array Value} {pc : Nat} {ls : Array Slot} {st0 rest : List Value}
theorem vx_callFe {ad : Nat → Nat} {S SX : Type} {post : Option Nat → S → Prop} {px : SX → Prop} {B : S → State → Prop} {BX : String → SX → State → Prop} {AX : Nat → Prop} (hr : vx_Run5 p l e R s m args below meth c H locs cells slots mc ms (F0 m pc ls st0) rest (va_Qe ad post B A1 a) (vx_X px BX AX) free) (hS : va_S A0 H0 H locs) (hA : ∀ q, q < H.size → A1 q → A0 q) (hf : ∀ q, free q → A0 q) (hAX : ∀ q, q < H.size → AX q → A0 q)
    (kx : ∀ (E : String) (ce : Cell) (q9 : Addr) (u : SX) (t : State) (H1 : Heap) (locs1 : List Loc), t.heap = H1 → s.vm.Alike t.vm → px u → BX E u t → H.size ≤ H1.size → (∀ q : Nat, q < H.size → ¬ AX q → H1[q]? = H[q]?) → va_S A0 H0 H1 locs1 → H1[q9]? = some ce → ce.vm = .none → s.vm.findClass E = some ce.cls → vx_W p l e R s m args below meth c H1 locs1 (cells + mc) (slots + ms) Q (F0 m pc ls rest) q9)
    (kk : ∀ (r : Option Nat) (u : S) (t : State) (H1 : Heap) (locs1 : List Loc), t.heap = H1 → s.vm.Alike t.vm → post r u → B u t → H.size ≤ H1.size → (∀ q : Nat, q < H.size → ¬ A1 q → H1[q]? = H[q]?) → va_S A0 H0 H1 locs1 → W p l e R s m args below meth c H1 locs1 (cells + mc) (slots + ms) Q (F0 m (pc + 5) ls (va_re ad r :: rest))) : W p l e R s m args below meth c H locs cells slots Q (F0 m pc ls st0) := by
  intro T hT X
  rcases hr T hT X with ⟨v, st₀, t, T', L, h0, X', hL, e1, e2, ⟨⟨r, u, hv, hp, hb⟩, hF⟩, st⟩ | ⟨q, st₀, t, T', L, E, ce, h0, X', hL, e1, e2, ⟨u, hp, hb, hF⟩, hce, hcv, hcl, st⟩
  · cases hv
    obtain ⟨k1, k2, k3⟩ := vx_keep h0 e1 hS hA hf hL hF
    obtain ⟨t2, a1, b1⟩ := kk r u t T'.heap (locs ++ L) e1.symm (by rw [← e2]; exact X'.warmed.alike) hp hb k1 k2 k3 T' rfl X'
    exact ⟨t2, st t2 a1, b1⟩
  · obtain ⟨k1, k2, k3⟩ := vx_keep h0 e1 hS hAX hf hL hF
    obtain ⟨t2, a1, b1⟩ := kx E ce q u t T'.heap (locs ++ L) e1.symm (by rw [← e2]; exact X'.warmed.alike) hp hb k1 k2 k3 (by rw [e1]; exact hce) hcv hcl T' rfl X'
    exact ⟨t2, st.trans a1, b1⟩
end
/-! ===== END ===== -/
/-! ===== BEGIN what the machine throws by itself: null at a field, at athrow ===== -/
section VXM2
variable {p : Program} {l : Launch} {e : Env} {R : Room} {s : State} {m : MethodId} {args : Array Value} {below : List Frame} {meth : Method} {c : Code} {H : Heap} {locs : List Loc} {cells slots : Nat}
variable {Q : State → Prop} {cc : ByteArray} {pc : Nat} {ls : Array Slot} {rest : List Value}
theorem vx_getfN {D cl tys} {own ref C : String} {T : u_T} {N ci index : Nat} {Ts : List Cond} (hexec : p.tables.exec = Jvm.exec) (hb : c.code = cc) (hts : ∀ w ∈ Ts, w.before args s = true) (hin : ∀ w ∈ u_ws C T N, w ∈ Ts) (hown : s.vm.findClass own = some m.cls) (hK : va_K D cl tys s) (hc : cl[ci]? = some (C, T, N)) (k : Nat) (hk : k < N) (hlink : (Cond.fieldLink own index ref (T k).2.1 (T k).2.2.1).before args s = true) (hsame : ∀ x, s.fieldFound? (T k).1 (T k).2.1 (T k).2.2.1 = some x → s.fieldFound? ref (T k).2.1 (T k).2.2.1 = some x) (hdg : decode cc pc = .ok (.getfield index, 3)) (kk : vx_NoteN p l e R s m args below meth c H locs cells slots Q (F0 m pc ls rest)) : W p l e R s m args below meth c H locs cells slots Q (F0 m pc ls (.null :: rest)) := by
  obtain ⟨hS, hfc, kC, hkC, -⟩ := hK.1 ci _ hc
  obtain ⟨cf, kf, fi, f, hi, -⟩ := hS k hk
  intro U hU X
  obtain ⟨vm', X1, st1⟩ := X.getfieldNull hexec hown hlink (hsame _ hi) (u_facts hfc hkC (u_lays hts hin hk) hi).1 (g := F0 m pc ls (.null :: rest)) rfl (rest := rest) rfl (by rw [hb]; exact hdg)
  obtain ⟨t, st, q⟩ := kk (U.setVm vm') hU X1
  exact ⟨t, st1 t st, q⟩
theorem vx_getfNN {D cl tys} {own ref C host : String} {T : u_T} {N ci index : Nat} {Ts : List Cond} (hexec : p.tables.exec = Jvm.exec) (hb : c.code = cc) (hts : ∀ w ∈ Ts, w.before args s = true) (hin : ∀ w ∈ u_ws C T N, w ∈ Ts) (hown : s.vm.findClass own = some m.cls) (hK : va_K D cl tys s) (hc : cl[ci]? = some (C, T, N)) (k : Nat) (hk : k < N) (hlink : (Cond.fieldLinkNest own index ref (T k).2.1 (T k).2.2.1 host).before args s = true) (hsame : ∀ x, s.fieldFound? (T k).1 (T k).2.1 (T k).2.2.1 = some x → s.fieldFound? ref (T k).2.1 (T k).2.2.1 = some x) (hdg : decode cc pc = .ok (.getfield index, 3)) (kk : vx_NoteN p l e R s m args below meth c H locs cells slots Q (F0 m pc ls rest)) : W p l e R s m args below meth c H locs cells slots Q (F0 m pc ls (.null :: rest)) := by
  obtain ⟨hS, hfc, kC, hkC, -⟩ := hK.1 ci _ hc
  obtain ⟨cf, kf, fi, f, hi, -⟩ := hS k hk
  intro U hU X
  obtain ⟨vm', X1, st1⟩ := X.getfieldNullNest hexec hown hlink (hsame _ hi) (u_facts hfc hkC (u_lays hts hin hk) hi).1 (g := F0 m pc ls (.null :: rest)) rfl (rest := rest) rfl (by rw [hb]; exact hdg)
  obtain ⟨t, st, q⟩ := kk (U.setVm vm') hU X1
  exact ⟨t, st1 t st, q⟩
theorem vx_putfN {D cl tys} {own ref C : String} {T : u_T} {N ci index : Nat} {Ts : List Cond} (hexec : p.tables.exec = Jvm.exec) (hb : c.code = cc) (hts : ∀ w ∈ Ts, w.before args s = true) (hin : ∀ w ∈ u_ws C T N, w ∈ Ts) (hown : s.vm.findClass own = some m.cls) (hK : va_K D cl tys s) (hc : cl[ci]? = some (C, T, N)) (k : Nat) (hk : k < N) (hlink : (Cond.fieldLink own index ref (T k).2.1 (T k).2.2.1).before args s = true) (hsame : ∀ x, s.fieldFound? (T k).1 (T k).2.1 (T k).2.2.1 = some x → s.fieldFound? ref (T k).2.1 (T k).2.2.1 = some x) (hfin : (T k).2.2.2 = false) {v : Value} (hdg : decode cc pc = .ok (.putfield index, 3)) (kk : vx_NoteN p l e R s m args below meth c H locs cells slots Q (F0 m pc ls rest)) : W p l e R s m args below meth c H locs cells slots Q (F0 m pc ls (v :: .null :: rest)) := by
  obtain ⟨hS, hfc, kC, hkC, -⟩ := hK.1 ci _ hc
  obtain ⟨cf, kf, fi, f, hi, -⟩ := hS k hk
  have hlay := hts _ (hin _ (u_in_lay hk))
  unfold u_lay at hlay
  rw [if_neg (by rw [hfin]; decide)] at hlay
  obtain ⟨c9, k9, cf9, kf9, fi9, f9, -, -, hi9, hst9, hnf9, -⟩ := Cond.lays_spec hlay
  cases hi.symm.trans hi9
  intro U hU X
  obtain ⟨vm', X1, st1⟩ := X.putfieldNull hexec hown hlink (hsame _ hi) hst9 hnf9 (g := F0 m pc ls (v :: .null :: rest)) rfl (v := v) (rest := rest) rfl (by rw [hb]; exact hdg)
  obtain ⟨t, st, q⟩ := kk (U.setVm vm') hU X1
  exact ⟨t, st1 t st, q⟩
theorem vx_putfNN {D cl tys} {own ref C host : String} {T : u_T} {N ci index : Nat} {Ts : List Cond} (hexec : p.tables.exec = Jvm.exec) (hb : c.code = cc) (hts : ∀ w ∈ Ts, w.before args s = true) (hin : ∀ w ∈ u_ws C T N, w ∈ Ts) (hown : s.vm.findClass own = some m.cls) (hK : va_K D cl tys s) (hc : cl[ci]? = some (C, T, N)) (k : Nat) (hk : k < N) (hlink : (Cond.fieldLinkNest own index ref (T k).2.1 (T k).2.2.1 host).before args s = true) (hsame : ∀ x, s.fieldFound? (T k).1 (T k).2.1 (T k).2.2.1 = some x → s.fieldFound? ref (T k).2.1 (T k).2.2.1 = some x) (hfin : (T k).2.2.2 = false) {v : Value} (hdg : decode cc pc = .ok (.putfield index, 3)) (kk : vx_NoteN p l e R s m args below meth c H locs cells slots Q (F0 m pc ls rest)) : W p l e R s m args below meth c H locs cells slots Q (F0 m pc ls (v :: .null :: rest)) := by
  obtain ⟨hS, hfc, kC, hkC, -⟩ := hK.1 ci _ hc
  obtain ⟨cf, kf, fi, f, hi, -⟩ := hS k hk
  have hlay := hts _ (hin _ (u_in_lay hk))
  unfold u_lay at hlay
  rw [if_neg (by rw [hfin]; decide)] at hlay
  obtain ⟨c9, k9, cf9, kf9, fi9, f9, -, -, hi9, hst9, hnf9, -⟩ := Cond.lays_spec hlay
  cases hi.symm.trans hi9
  intro U hU X
  obtain ⟨vm', X1, st1⟩ := X.putfieldNullNest hexec hown hlink (hsame _ hi) hst9 hnf9 (g := F0 m pc ls (v :: .null :: rest)) rfl (v := v) (rest := rest) rfl (by rw [hb]; exact hdg)
  obtain ⟨t, st, q⟩ := kk (U.setVm vm') hU X1
  exact ⟨t, st1 t st, q⟩
theorem vx_athrowN (hexec : p.tables.exec = Jvm.exec) (hb : c.code = cc) (hdg : decode cc pc = .ok (.athrow, 1)) (k : vx_NoteN p l e R s m args below meth c H locs cells slots Q (F0 m pc ls rest)) : W p l e R s m args below meth c H locs cells slots Q (F0 m pc ls (.null :: rest)) := by
  intro T hT X
  obtain ⟨t, st, q⟩ := k T hT X
  exact ⟨t, X.athrowNull hexec (g := F0 m pc ls (.null :: rest)) rfl (rest := rest) rfl (by rw [hb]; exact hdg) t st, q⟩
end VXM2
/-! ===== END ===== -/
end
section
/-! the tables' words that a method may take for granted; the classes -/
def gtbl : List Cond := lw_tbl.filter goodWord
def nword : Cond → Bool
  | .fieldLinkNest .. => true
  | .methodLinkNest .. => true
  | _ => false
def ntbl : List Cond := tables_1.filter nword
theorem gtbl_in : GoodIn lw_tbl gtbl := fun w h => ⟨(List.mem_filter.mp h).1, good_of_word (List.mem_filter.mp h).2⟩
theorem gtbl_self : GoodIn gtbl gtbl := fun w h => ⟨h, good_of_word (List.mem_filter.mp h).2⟩
theorem g_at {w : Cond} (i : Nat) (h : tables_1[i]? = some w) (hg : goodWord w = true) : w ∈ gtbl := List.mem_filter.mpr ⟨List.mem_append_right _ (List.mem_of_getElem? h), hg⟩
theorem g_sel {w : Cond} (i : Nat) (h : (k2_sels lw_privs)[i]? = some w) (hg : goodWord w = true) : w ∈ gtbl := List.mem_filter.mpr ⟨List.mem_append_left _ (List.mem_of_getElem? h), hg⟩
theorem nt_at {w : Cond} (i : Nat) (h : tables_1[i]? = some w) (hg : nword w = true) : w ∈ ntbl := List.mem_filter.mpr ⟨List.mem_of_getElem? h, hg⟩
theorem g_all {ws : List Cond} (is : List Nat) (h : ws.map some = is.map (fun i => tables_1[i]?)) (hg : ws.all goodWord = true) : ∀ w ∈ ws, w ∈ gtbl := by
  intro w hw
  have h1 : some w ∈ ws.map some := List.mem_map.mpr ⟨w, hw, rfl⟩
  rw [h] at h1
  obtain ⟨i, -, hi⟩ := List.mem_map.mp h1
  exact g_at i hi (List.all_eq_true.mp hg w hw)
def R_Quad : String := "CornerMaps$Quad"
def F_Quad : u_T := fun k => match k with
  | _ => ("CornerMaps$Quad", "corners", "[[J", true)
def t_Quad : Nat → FieldType := fun k => match k with
  | _ => (.array (.array .long))
abbrev w_Quad : List Cond := u_ws R_Quad F_Quad 1
theorem n_Quad : ∀ a, a < 1 → ∀ b, b < 1 → a ≠ b → (F_Quad a).2.1 ≠ (F_Quad b).2.1 := by decide +kernel
theorem k_Quad : ∀ k, k < 1 → parseFieldDescriptor (F_Quad k).2.2.1 = some (t_Quad k) := by decide +kernel
theorem i_Quad : ∀ w ∈ w_Quad, w ∈ gtbl := g_all [60] (by decide +kernel) (by decide +kernel)
def R_Plane : String := "CornerMaps$Plane"
def F_Plane : u_T := fun k => match k with
  | 0 => ("CornerMaps$Plane", "quads", "[LCornerMaps$Quad;", true)
  | 1 => ("CornerMaps$Plane", "maps", "[[J", true)
  | 2 => ("CornerMaps$Plane", "points", "[[J", true)
  | 3 => ("CornerMaps$Plane", "lineCount", "I", false)
  | 4 => ("CornerMaps$Plane", "quadCount", "I", false)
  | 5 => ("CornerMaps$Plane", "mapCount", "I", false)
  | _ => ("CornerMaps$Plane", "pointCount", "I", false)
def t_Plane : Nat → FieldType := fun k => match k with
  | 0 => (.array (.object "CornerMaps$Quad"))
  | 1 => (.array (.array .long))
  | 2 => (.array (.array .long))
  | 3 => .int
  | 4 => .int
  | 5 => .int
  | _ => .int
abbrev w_Plane : List Cond := u_ws R_Plane F_Plane 7
theorem n_Plane : ∀ a, a < 7 → ∀ b, b < 7 → a ≠ b → (F_Plane a).2.1 ≠ (F_Plane b).2.1 := by decide +kernel
theorem k_Plane : ∀ k, k < 7 → parseFieldDescriptor (F_Plane k).2.2.1 = some (t_Plane k) := by decide +kernel
theorem i_Plane : ∀ w ∈ w_Plane, w ∈ gtbl := g_all [88, 90, 92, 94, 96, 98, 100] (by decide +kernel) (by decide +kernel)
def R_Tape : String := "CornerMaps$Tape"
def F_Tape : u_T := fun k => match k with
  | 0 => ("CornerMaps$Tape", "bytes", "[I", true)
  | _ => ("CornerMaps$Tape", "length", "I", false)
def t_Tape : Nat → FieldType := fun k => match k with
  | 0 => (.array .int)
  | _ => .int
abbrev w_Tape : List Cond := u_ws R_Tape F_Tape 2
theorem n_Tape : ∀ a, a < 2 → ∀ b, b < 2 → a ≠ b → (F_Tape a).2.1 ≠ (F_Tape b).2.1 := by decide +kernel
theorem k_Tape : ∀ k, k < 2 → parseFieldDescriptor (F_Tape k).2.2.1 = some (t_Tape k) := by decide +kernel
theorem i_Tape : ∀ w ∈ w_Tape, w ∈ gtbl := g_all [114, 116] (by decide +kernel) (by decide +kernel)
def R_Maker : String := "CornerMaps$Maker"
def F_Maker : u_T := fun k => match k with
  | 0 => ("CornerMaps$Maker", "frame", "[J", true)
  | 1 => ("CornerMaps$Maker", "back", "[J", true)
  | _ => ("CornerMaps$Maker", "square", "LCornerMaps$Quad;", true)
def t_Maker : Nat → FieldType := fun k => match k with
  | 0 => (.array .long)
  | 1 => (.array .long)
  | _ => (.object "CornerMaps$Quad")
abbrev w_Maker : List Cond := u_ws R_Maker F_Maker 3
theorem n_Maker : ∀ a, a < 3 → ∀ b, b < 3 → a ≠ b → (F_Maker a).2.1 ≠ (F_Maker b).2.1 := by decide +kernel
theorem k_Maker : ∀ k, k < 3 → parseFieldDescriptor (F_Maker k).2.2.1 = some (t_Maker k) := by decide +kernel
theorem i_Maker : ∀ w ∈ w_Maker, w ∈ gtbl := g_all [131, 133, 135] (by decide +kernel) (by decide +kernel)
def R_Reader : String := "CornerMaps$Reader"
def F_Reader : u_T := fun k => match k with
  | 0 => ("CornerMaps$Reader", "tape", "LCornerMaps$Tape;", true)
  | 1 => ("CornerMaps$Reader", "maker", "LCornerMaps$Maker;", true)
  | 2 => ("CornerMaps$Reader", "quadNames", "[I", true)
  | 3 => ("CornerMaps$Reader", "mapNames", "[I", true)
  | 4 => ("CornerMaps$Reader", "row", "[J", true)
  | 5 => ("CornerMaps$Reader", "madeMap", "[J", true)
  | 6 => ("CornerMaps$Reader", "plane", "LCornerMaps$Plane;", false)
  | 7 => ("CornerMaps$Reader", "end", "I", false)
  | 8 => ("CornerMaps$Reader", "at", "I", false)
  | 9 => ("CornerMaps$Reader", "token", "I", false)
  | 10 => ("CornerMaps$Reader", "tokenPlace", "I", false)
  | 11 => ("CornerMaps$Reader", "value", "I", false)
  | 12 => ("CornerMaps$Reader", "fault", "I", false)
  | _ => ("CornerMaps$Reader", "faultPlace", "I", false)
def t_Reader : Nat → FieldType := fun k => match k with
  | 0 => (.object "CornerMaps$Tape")
  | 1 => (.object "CornerMaps$Maker")
  | 2 => (.array .int)
  | 3 => (.array .int)
  | 4 => (.array .long)
  | 5 => (.array .long)
  | 6 => (.object "CornerMaps$Plane")
  | 7 => .int
  | 8 => .int
  | 9 => .int
  | 10 => .int
  | 11 => .int
  | 12 => .int
  | _ => .int
abbrev w_Reader : List Cond := u_ws R_Reader F_Reader 14
theorem n_Reader : ∀ a, a < 14 → ∀ b, b < 14 → a ≠ b → (F_Reader a).2.1 ≠ (F_Reader b).2.1 := by decide +kernel
theorem k_Reader : ∀ k, k < 14 → parseFieldDescriptor (F_Reader k).2.2.1 = some (t_Reader k) := by decide +kernel
theorem i_Reader : ∀ w ∈ w_Reader, w ∈ gtbl := g_all [160, 162, 164, 166, 168, 170, 172, 174, 176, 178, 180, 182, 184, 186] (by decide +kernel) (by decide +kernel)
def R_Past : String := "CornerMaps$Past"
def F_Past : u_T := fun k => match k with
  | 0 => ("CornerMaps$Past", "deeds", "[I", true)
  | 1 => ("CornerMaps$Past", "numbers", "[I", true)
  | 2 => ("CornerMaps$Past", "rows", "[[J", true)
  | 3 => ("CornerMaps$Past", "eldest", "I", false)
  | _ => ("CornerMaps$Past", "count", "I", false)
def t_Past : Nat → FieldType := fun k => match k with
  | 0 => (.array .int)
  | 1 => (.array .int)
  | 2 => (.array (.array .long))
  | 3 => .int
  | _ => .int
abbrev w_Past : List Cond := u_ws R_Past F_Past 5
theorem n_Past : ∀ a, a < 5 → ∀ b, b < 5 → a ≠ b → (F_Past a).2.1 ≠ (F_Past b).2.1 := by decide +kernel
theorem k_Past : ∀ k, k < 5 → parseFieldDescriptor (F_Past k).2.2.1 = some (t_Past k) := by decide +kernel
theorem i_Past : ∀ w ∈ w_Past, w ∈ gtbl := g_all [202, 204, 206, 208, 210] (by decide +kernel) (by decide +kernel)
def R_Pairs : String := "CornerMaps$Pairs"
def F_Pairs : u_T := fun k => match k with
  | 0 => ("CornerMaps$Pairs", "rows", "[[J", true)
  | 1 => ("CornerMaps$Pairs", "width", "I", false)
  | _ => ("CornerMaps$Pairs", "count", "I", false)
def t_Pairs : Nat → FieldType := fun k => match k with
  | 0 => (.array (.array .long))
  | 1 => .int
  | _ => .int
abbrev w_Pairs : List Cond := u_ws R_Pairs F_Pairs 3
theorem n_Pairs : ∀ a, a < 3 → ∀ b, b < 3 → a ≠ b → (F_Pairs a).2.1 ≠ (F_Pairs b).2.1 := by decide +kernel
theorem k_Pairs : ∀ k, k < 3 → parseFieldDescriptor (F_Pairs k).2.2.1 = some (t_Pairs k) := by decide +kernel
theorem i_Pairs : ∀ w ∈ w_Pairs, w ∈ gtbl := g_all [225, 227, 229] (by decide +kernel) (by decide +kernel)
def R_SB : String := "java/lang/StringBuilder"
def F_SB : u_T := fun k => match k with
  | 0 => ("java/lang/AbstractStringBuilder", "value", "[B", false)
  | 1 => ("java/lang/AbstractStringBuilder", "coder", "B", false)
  | 2 => ("java/lang/AbstractStringBuilder", "maybeLatin1", "Z", false)
  | _ => ("java/lang/AbstractStringBuilder", "count", "I", false)
def t_SB : Nat → FieldType := fun k => match k with
  | 0 => (.array .byte)
  | 1 => .byte
  | 2 => .boolean
  | _ => .int
abbrev w_SB : List Cond := u_ws R_SB F_SB 4
theorem n_SB : ∀ a, a < 4 → ∀ b, b < 4 → a ≠ b → (F_SB a).2.1 ≠ (F_SB b).2.1 := by decide +kernel
theorem k_SB : ∀ k, k < 4 → parseFieldDescriptor (F_SB k).2.2.1 = some (t_SB k) := by decide +kernel
theorem i_SB : ∀ w ∈ w_SB, w ∈ gtbl := g_all [255, 257, 259, 261] (by decide +kernel) (by decide +kernel)
def R_CM : String := "CornerMaps"
def F_CM : u_T := fun k => match k with
  | 0 => ("CornerMaps", "plane", "LCornerMaps$Plane;", false)
  | 1 => ("CornerMaps", "spare", "LCornerMaps$Plane;", false)
  | 2 => ("CornerMaps", "tape", "LCornerMaps$Tape;", true)
  | 3 => ("CornerMaps", "reader", "LCornerMaps$Reader;", true)
  | 4 => ("CornerMaps", "past", "LCornerMaps$Past;", true)
  | 5 => ("CornerMaps", "maker", "LCornerMaps$Maker;", true)
  | 6 => ("CornerMaps", "products", "LCornerMaps$Pairs;", true)
  | 7 => ("CornerMaps", "spelled", "Ljava/lang/StringBuilder;", true)
  | 8 => ("CornerMaps", "work", "[J", true)
  | 9 => ("CornerMaps", "otherWork", "[J", true)
  | 10 => ("CornerMaps", "risen", "[J", true)
  | 11 => ("CornerMaps", "given", "[J", true)
  | 12 => ("CornerMaps", "result", "[J", true)
  | 13 => ("CornerMaps", "step", "[J", true)
  | 14 => ("CornerMaps", "firstLine", "[J", true)
  | 15 => ("CornerMaps", "secondLine", "[J", true)
  | 16 => ("CornerMaps", "moved", "[[J", true)
  | _ => ("CornerMaps", "found", "[I", true)
def t_CM : Nat → FieldType := fun k => match k with
  | 0 => (.object "CornerMaps$Plane")
  | 1 => (.object "CornerMaps$Plane")
  | 2 => (.object "CornerMaps$Tape")
  | 3 => (.object "CornerMaps$Reader")
  | 4 => (.object "CornerMaps$Past")
  | 5 => (.object "CornerMaps$Maker")
  | 6 => (.object "CornerMaps$Pairs")
  | 7 => (.object "java/lang/StringBuilder")
  | 8 => (.array .long)
  | 9 => (.array .long)
  | 10 => (.array .long)
  | 11 => (.array .long)
  | 12 => (.array .long)
  | 13 => (.array .long)
  | 14 => (.array .long)
  | 15 => (.array .long)
  | 16 => (.array (.array .long))
  | _ => (.array .int)
abbrev w_CM : List Cond := u_ws R_CM F_CM 18
theorem n_CM : ∀ a, a < 18 → ∀ b, b < 18 → a ≠ b → (F_CM a).2.1 ≠ (F_CM b).2.1 := by decide +kernel
theorem k_CM : ∀ k, k < 18 → parseFieldDescriptor (F_CM k).2.2.1 = some (t_CM k) := by decide +kernel
theorem i_CM : ∀ w ∈ w_CM, w ∈ gtbl := g_all [284, 286, 288, 290, 292, 294, 296, 298, 300, 302, 304, 306, 308, 310, 312, 314, 316, 318] (by decide +kernel) (by decide +kernel)
def R_Model : String := "CornerMapsModel"
def F_Model : u_T := fun k => match k with
  | 0 => ("CornerMapsModel", "thrown", "I", false)
  | 1 => ("CornerMapsModel", "tape", "[I", true)
  | 2 => ("CornerMapsModel", "taped", "I", false)
  | 3 => ("CornerMapsModel", "quad", "[I", true)
  | 4 => ("CornerMapsModel", "newQuad", "[I", true)
  | 5 => ("CornerMapsModel", "quads", "I", false)
  | 6 => ("CornerMapsModel", "newQuads", "I", false)
  | 7 => ("CornerMapsModel", "now", "[J", true)
  | 8 => ("CornerMapsModel", "newNow", "[J", true)
  | 9 => ("CornerMapsModel", "past", "[J", true)
  | 10 => ("CornerMapsModel", "undone", "I", false)
  | 11 => ("CornerMapsModel", "lines", "I", false)
  | 12 => ("CornerMapsModel", "newLines", "I", false)
  | 13 => ("CornerMapsModel", "quadName", "[I", true)
  | 14 => ("CornerMapsModel", "mapName", "[I", true)
  | 15 => ("CornerMapsModel", "size", "I", false)
  | 16 => ("CornerMapsModel", "at", "I", false)
  | 17 => ("CornerMapsModel", "place", "I", false)
  | 18 => ("CornerMapsModel", "sort", "I", false)
  | 19 => ("CornerMapsModel", "value", "I", false)
  | 20 => ("CornerMapsModel", "word", "I", false)
  | 21 => ("CornerMapsModel", "fault", "I", false)
  | 22 => ("CornerMapsModel", "faultPlace", "I", false)
  | 23 => ("CornerMapsModel", "lastFault", "I", false)
  | 24 => ("CornerMapsModel", "lastPlace", "I", false)
  | 25 => ("CornerMapsModel", "nine", "[J", true)
  | 26 => ("CornerMapsModel", "other", "[J", true)
  | 27 => ("CornerMapsModel", "third", "[J", true)
  | 28 => ("CornerMapsModel", "three", "[J", true)
  | 29 => ("CornerMapsModel", "more", "[J", true)
  | 30 => ("CornerMapsModel", "pair", "[I", true)
  | 31 => ("CornerMapsModel", "kept", "[J", true)
  | 32 => ("CornerMapsModel", "row", "[I", true)
  | 33 => ("CornerMapsModel", "rowMany", "I", false)
  | 34 => ("CornerMapsModel", "unlike", "[J", true)
  | 35 => ("CornerMapsModel", "unlikeMany", "I", false)
  | 36 => ("CornerMapsModel", "spelt", "[I", true)
  | _ => ("CornerMapsModel", "speltMany", "I", false)
def t_Model : Nat → FieldType := fun k => match k with
  | 0 => .int
  | 1 => (.array .int)
  | 2 => .int
  | 3 => (.array .int)
  | 4 => (.array .int)
  | 5 => .int
  | 6 => .int
  | 7 => (.array .long)
  | 8 => (.array .long)
  | 9 => (.array .long)
  | 10 => .int
  | 11 => .int
  | 12 => .int
  | 13 => (.array .int)
  | 14 => (.array .int)
  | 15 => .int
  | 16 => .int
  | 17 => .int
  | 18 => .int
  | 19 => .int
  | 20 => .int
  | 21 => .int
  | 22 => .int
  | 23 => .int
  | 24 => .int
  | 25 => (.array .long)
  | 26 => (.array .long)
  | 27 => (.array .long)
  | 28 => (.array .long)
  | 29 => (.array .long)
  | 30 => (.array .int)
  | 31 => (.array .long)
  | 32 => (.array .int)
  | 33 => .int
  | 34 => (.array .long)
  | 35 => .int
  | 36 => (.array .int)
  | _ => .int
abbrev w_Model : List Cond := u_ws R_Model F_Model 38
theorem n_Model : ∀ a, a < 38 → ∀ b, b < 38 → a ≠ b → (F_Model a).2.1 ≠ (F_Model b).2.1 := by decide +kernel
theorem k_Model : ∀ k, k < 38 → parseFieldDescriptor (F_Model k).2.2.1 = some (t_Model k) := by decide +kernel
theorem i_Model : ∀ w ∈ w_Model, w ∈ gtbl := g_all [1535, 1537, 1539, 1541, 1543, 1545, 1547, 1549, 1551, 1553, 1555, 1557, 1559, 1561, 1563, 1565, 1567, 1569, 1571, 1573, 1575, 1577, 1579, 1581, 1583, 1585, 1587, 1589, 1591, 1593, 1595, 1597, 1599, 1601, 1603, 1605, 1607, 1609] (by decide +kernel) (by decide +kernel)
abbrev classes : List vw_C := [(R_Quad, F_Quad, 1), (R_Plane, F_Plane, 7), (R_Tape, F_Tape, 2), (R_Maker, F_Maker, 3), (R_Reader, F_Reader, 14), (R_Past, F_Past, 5), (R_Pairs, F_Pairs, 3), (R_SB, F_SB, 4), (R_CM, F_CM, 18), (R_Model, F_Model, 38)]
end
section
/-! the pure world: cells by numbers of our own; below 1000000 those that the run makes, in order; from there on those that were there at the start, which nobody writes -/
abbrev pE : Type := (Nat × vp_A) ⊕ (Nat × List Value)
abbrev pW : Type := Nat × (Nat → pE)
/-- the launch, the heap's size at the start, where the outer cells lie, classes and slots, array classes, the outer cells -/
abbrev pG : Type := Launch × Nat × (Nat → Nat) × va_G × (Nat → ClassId) × (Nat → pE)
abbrev g_l (G : pG) : Launch := G.1
abbrev g_b (G : pG) : Nat := G.2.1
abbrev g_x (G : pG) : Nat → Nat := G.2.2.1
abbrev g_D (G : pG) : va_G := G.2.2.2.1
abbrev g_c (G : pG) : Nat → ClassId := G.2.2.2.2.1
abbrev g_w (G : pG) : Nat → pE := G.2.2.2.2.2
def g_f (G : pG) (k : Nat) : Nat := if k < 1000000 then g_b G + k else g_x G (k - 1000000)
def g_A (G : pG) : Nat → Prop := fun q => g_b G ≤ q
theorem g_f_own {G : pG} {k : Nat} (h : k < 1000000) : g_f G k = g_b G + k := if_pos h
theorem g_f_ext {G : pG} {k : Nat} (h : 1000000 ≤ k) : g_f G k = g_x G (k - 1000000) := if_neg (Nat.not_lt.mpr h)
theorem g_A_f {G : pG} {k : Nat} (h : k < 1000000) : g_A G (g_f G k) := by rw [g_f_own h]; exact Nat.le_add_right _ _
theorem g_inj {G : pG} {i j : Nat} (hi : i < 1000000) (hj : j < 1000000) (h : g_f G i = g_f G j) : i = j := by rw [g_f_own hi, g_f_own hj] at h; omega
def tv (f : Nat → Nat) : Value → Value
  | .ref a => .ref (f a)
  | v => v
def ta (f : Nat → Nat) (a : vp_A) : vp_A := match a.2 with
  | .inr (.inr (.inr (.inr g))) => (a.1, .inr (.inr (.inr (.inr (fun j => (g j).map f)))))
  | _ => a
/-- what an array holds at a place -/
def pv (a : vp_A) (j : Nat) : Value := match a.2 with
  | .inl f => .int (f j)
  | .inr (.inl f) => .long (f j)
  | .inr (.inr (.inl f)) => .float (f j)
  | .inr (.inr (.inr (.inl f))) => .double (f j)
  | .inr (.inr (.inr (.inr f))) => va_rf (f j)
theorem tv_cat (f : Nat → Nat) (v : Value) : (tv f v).category = v.category := by cases v <;> rfl
theorem tv_rf (f : Nat → Nat) (r : Option Nat) : tv f (va_rf r) = va_rf (r.map f) := by cases r <;> rfl
theorem ta_1 (f : Nat → Nat) (a : vp_A) : (ta f a).1 = a.1 := by
  obtain ⟨n, g | g | g | g | g⟩ := a <;> rfl
theorem ta_cell (f : Nat → Nat) (c : ClassId) (a : vp_A) : vp_cell c (ta f a) = arrV c a.1 (fun j => tv f (pv a j)) := by
  obtain ⟨n, g | g | g | g | g⟩ := a
  · rfl
  · rfl
  · rfl
  · rfl
  · show arrV c n (fun j => va_rf ((g j).map f)) = arrV c n (fun j => tv f (va_rf (g j)))
    exact congrArg (arrV c n) (funext fun j => (tv_rf f (g j)).symm)
def aty : Nat → FieldType
  | 0 => .int
  | 1 => .long
  | 2 => .byte
  | 3 => .array .long
  | 4 => .object "CornerMaps$Quad"
  | _ => .int
def tysG (G : pG) : List (ClassId × FieldType) := (List.range 5).map (fun t => (g_c G t, aty t))
theorem tysG_at (G : pG) {t : Nat} (h : t < 5) : (tysG G)[t]? = some (g_c G t, aty t) := by
  simp [tysG, h]
def pat (G : pG) (i : Nat) (e : pE) (H : Heap) : Prop := match e with
  | .inl x => x.1 < 5 ∧ H[g_f G i]? = some (vp_cell (g_c G x.1) (ta (g_f G) x.2))
  | .inr o => o.1 = 1000 ∨ ∃ r : vw_C, classes[o.1]? = some r ∧ o.2.length = r.2.2 ∧ t_OB (g_f G i) ((g_D G).1 o.1) r.2.2 ((g_D G).2 o.1) H (vp_V (o.2.map (tv (g_f G))))
theorem pat.kept {G : pG} {i : Nat} {e : pE} {H H1 : Heap} (h : pat G i e H) (hq : H1[g_f G i]? = H[g_f G i]?) : pat G i e H1 := by
  cases e with
  | inl x => exact ⟨h.1, hq.trans h.2⟩
  | inr o =>
    rcases h with h | ⟨r, h1, h2, h3⟩
    · exact Or.inl h
    · exact Or.inr ⟨r, h1, h2, h3.kept hq⟩
def no_p : pE := .inr (1000, [])
def HW (G : pG) (w : pW) (H : Heap) : Prop :=
  H.size = g_b G + w.1 ∧ w.1 ≤ 1000000 ∧ (∀ i, i < w.1 → pat G i (w.2 i) H) ∧ (∀ i, w.1 ≤ i → i < 1000000 → w.2 i = no_p) ∧ ∀ k, w.2 (1000000 + k) = g_w G k
def wu (f : Nat → pE) (i : Nat) (e : pE) : Nat → pE := fun j => if j = i then e else f j
theorem wu_s (f : Nat → pE) (i : Nat) (e : pE) : wu f i e i = e := if_pos rfl
theorem wu_n {f : Nat → pE} {i j : Nat} {e : pE} (h : j ≠ i) : wu f i e j = f j := if_neg h
theorem HW.set {G : pG} {w : pW} {H H1 : Heap} {r : Nat} {e : pE} (h : HW G w H) (hr : r < w.1) (he : pat G r e H1) (z : H1.size = H.size) (oq : ∀ q : Nat, q ≠ g_f G r → H1[q]? = H[q]?) : HW G (w.1, wu w.2 r e) H1 := by
  obtain ⟨h1, h2, h3, h4, h5⟩ := h
  have hrx : r < 1000000 := Nat.lt_of_lt_of_le hr h2
  refine ⟨z.trans h1, h2, fun i hi => ?_, fun i hi hx => ?_, fun k => ?_⟩
  · by_cases e1 : i = r
    · subst e1
      show pat G i (wu w.2 i e i) H1
      rw [wu_s]
      exact he
    · show pat G i (wu w.2 r e i) H1
      rw [wu_n e1]
      exact (h3 i hi).kept (oq _ (fun q => e1 (g_inj (Nat.lt_of_lt_of_le hi h2) hrx q)))
  · show wu w.2 r e i = no_p
    have hi : w.1 ≤ i := hi
    rw [wu_n (by omega)]
    exact h4 i hi hx
  · show wu w.2 r e (1000000 + k) = _
    rw [wu_n (by omega)]
    exact h5 k
theorem HW.push {G : pG} {w : pW} {H H1 : Heap} {e : pE} (h : HW G w H) (hr : w.1 < 1000000) (he : pat G w.1 e H1) (z : H1.size = H.size + 1) (oq : ∀ q : Nat, q < H.size → H1[q]? = H[q]?) : HW G (w.1 + 1, wu w.2 w.1 e) H1 := by
  obtain ⟨h1, h2, h3, h4, h5⟩ := h
  refine ⟨by show H1.size = g_b G + (w.1 + 1); omega, hr, fun i hi => ?_, fun i hi hx => ?_, fun k => ?_⟩
  · have hi : i < w.1 + 1 := hi
    by_cases e1 : i = w.1
    · subst e1
      show pat G w.1 (wu w.2 w.1 e w.1) H1
      rw [wu_s]
      exact he
    · show pat G i (wu w.2 w.1 e i) H1
      rw [wu_n e1]
      refine (h3 i (by omega)).kept (oq _ ?_)
      rw [g_f_own (by omega)]
      omega
  · show wu w.2 w.1 e i = no_p
    have hi : w.1 + 1 ≤ i := hi
    rw [wu_n (by omega)]
    exact h4 i (by omega) hx
  · show wu w.2 w.1 e (1000000 + k) = _
    rw [wu_n (by omega)]
    exact h5 k
/-! what stands outside -/
def xat (G : pG) (k : Nat) (U : State) (H : Heap) : Prop := match g_w G k with
  | .inl (0, n, .inl f) => va_T .int (g_x G k) n (fun j => .int (f j)) (g_A G) U H
  | .inl (1, n, .inr (.inl f)) => va_T .long (g_x G k) n (fun j => .long (f j)) (g_A G) U H
  | .inl (2, n, .inl f) => va_T .byte (g_x G k) n (fun j => .int (f j)) (g_A G) U H
  | .inr o => o.1 = 1000
  | _ => False
def sts : List (String × String × String × Nat) := [("CornerMaps", "ORDERS", "[I", 1), ("CornerMaps", "DIAGONALS", "[I", 2), ("CornerMaps", "NOTHING", "[J", 3), ("CornerMaps", "FAR_LINE", "[J", 4)]
def stv : List (String × String × String × Value) := [("java/lang/String", "COMPACT_STRINGS", "Z", .int 1)]
def XX (G : pG) (U : State) (H : Heap) : Prop :=
  (∀ k, xat G k U H) ∧ (∀ q ∈ stv, va_Z q.1 q.2.1 q.2.2.1 q.2.2.2 (g_A G) U H) ∧ (∀ q ∈ sts, va_Z q.1 q.2.1 q.2.2.1 (.ref (g_x G q.2.2.2)) (g_A G) U H) ∧ vx_Zq Bundle.tN "UNASSIGNED_STACK" Bundle.steD (g_A G) U H ∧ vx_Zq Bundle.tN "SUPPRESSED_SENTINEL" Bundle.listD (g_A G) U H
theorem xat.go {G : pG} {k : Nat} {s U : State} {H H1 : Heap} (hvm : s.vm.Alike U.vm) (hq : ∀ a : Nat, a < H.size → ¬ g_A G a → H1[a]? = H[a]?) (h : xat G k s H) : xat G k U H1 := by
  unfold xat at h ⊢
  split at h <;> first | exact (h.moved hvm).kept hq | exact h
theorem XX.go {G : pG} {s U : State} {H H1 : Heap} (hvm : s.vm.Alike U.vm) (hq : ∀ a : Nat, a < H.size → ¬ g_A G a → H1[a]? = H[a]?) (h : XX G s H) : XX G U H1 :=
  ⟨fun k => (h.1 k).go hvm hq, fun q hm => ((h.2.1 q hm).moved hvm).kept hq, fun q hm => ((h.2.2.1 q hm).moved hvm).kept hq, (h.2.2.2.1.moved hvm).kept hq, (h.2.2.2.2.moved hvm).kept hq⟩
def KX (G : pG) (U : State) : Prop := va_K (g_D G) classes (tysG G) U ∧ (∀ w ∈ ntbl, va_Nw w U) ∧ va_AO "CornerMaps$Quad" U ∧ (Cond.arrayOver (.array .long)).before #[] U = true
theorem KX.moved {G : pG} {s U : State} (hW : s.WarmedH U.vm) (h : KX G s) : KX G U := by
  refine ⟨va_K.moved hW.alike h.1, fun w hw => ?_, va_AO.moved hW.alike h.2.2.1, Stand.arrayOver_alikeB hW.alike h.2.2.2⟩
  have h1 := h.2.1 w hw
  have h2 := (List.mem_filter.mp hw).2
  cases w <;> first | exact va_Nw.warmF hW h1 | exact va_Nw.warmM hW h1 | (simp [nword] at h2)
/-- the facts of an array, outer or own -/
theorem pe_arr {G : pG} {w : pW} {s : State} {H H0 : Heap} {locs : List Loc} {r t : Nat} {a : vp_A} (hK : va_K (g_D G) classes (tysG G) s) (hX : XX G s H0) (hS : va_S (g_A G) H0 H locs) (hH : HW G w H) (hw : w.2 r = .inl (t, a)) :
    t < 5 ∧ ∃ cell : Cell, H[g_f G r]? = some cell ∧ s.isArrayOf cell (aty t) ∧ cell.vm ≠ .unknown ∧ a.1 ≤ cell.slots.size ∧ cell.slots.size.toInt32 = Int32.ofNat a.1 ∧ ∀ j : Nat, j < a.1 → cell.slots[j]? = some (tv (g_f G) (pv a j)) := by
  obtain ⟨h1, h2, h3, h4, h5⟩ := hH
  by_cases hr : r < w.1
  · have h6 := h3 r hr
    rw [hw] at h6
    obtain ⟨ht, h7⟩ := h6
    rw [ta_cell] at h7
    refine ⟨ht, _, h7, (hK.2 t _ (tysG_at G ht)).1 _ _, (fun q => by cases q), ?_, ?_, fun j hj => arrV_read _ _ hj⟩
    · rw [arrV_size]; exact Nat.le_refl _
    · rw [arrV_size] <;> rfl
  · by_cases hx : r < 1000000
    · rw [h4 r (Nat.not_lt.mp hr) hx] at hw
      cases hw
    · obtain ⟨k, hk⟩ : ∃ k, r = 1000000 + k := ⟨r - 1000000, by omega⟩
      subst hk
      rw [h5 k] at hw
      have h6 := hX.1 k
      have hf : g_f G (1000000 + k) = g_x G k := (g_f_ext (Nat.le_add_right _ _)).trans (congrArg (g_x G) (Nat.add_sub_cancel_left ..))
      unfold xat at h6
      rw [hf]
      split at h6
      · rename_i n f e
        rw [e] at hw
        cases hw
        obtain ⟨cell, c1, c2, c3, c4, c5, c6, c7⟩ := h6
        exact ⟨by decide, cell, by rw [hS.2.1 _ (Array.getElem?_eq_some_iff.mp c1).1 c7]; exact c1, c2, c3, c4, c5, c6⟩
      · rename_i n f e
        rw [e] at hw
        cases hw
        obtain ⟨cell, c1, c2, c3, c4, c5, c6, c7⟩ := h6
        exact ⟨by decide, cell, by rw [hS.2.1 _ (Array.getElem?_eq_some_iff.mp c1).1 c7]; exact c1, c2, c3, c4, c5, c6⟩
      · rename_i n f e
        rw [e] at hw
        cases hw
        obtain ⟨cell, c1, c2, c3, c4, c5, c6, c7⟩ := h6
        exact ⟨by decide, cell, by rw [hS.2.1 _ (Array.getElem?_eq_some_iff.mp c1).1 c7]; exact c1, c2, c3, c4, c5, c6⟩
      · rename_i o e
        rw [e] at hw
        cases hw
      · exact h6.elim
/-- the facts of an object -/
theorem pe_obj {G : pG} {w : pW} {s : State} {H H0 : Heap} {r ci : Nat} {fs : List Value} {q : vw_C} (hX : XX G s H0) (hH : HW G w H) (hc : classes[ci]? = some q) (hw : w.2 r = .inr (ci, fs)) :
    r < w.1 ∧ fs.length = q.2.2 ∧ t_OB (g_f G r) ((g_D G).1 ci) q.2.2 ((g_D G).2 ci) H (vp_V (fs.map (tv (g_f G)))) := by
  obtain ⟨h1, h2, h3, h4, h5⟩ := hH
  have hci : ci < 10 := (List.getElem?_eq_some_iff.mp hc).1
  by_cases hr : r < w.1
  · have h6 := h3 r hr
    rw [hw] at h6
    rcases h6 with h6 | ⟨q', e1, e2, e3⟩
    · have h6 : ci = 1000 := h6
      omega
    · cases hc.symm.trans e1
      exact ⟨hr, e2, e3⟩
  · by_cases hx : r < 1000000
    · rw [h4 r (Nat.not_lt.mp hr) hx] at hw
      have : (1000, ([] : List Value)) = (ci, fs) := Sum.inr.inj hw
      have : 1000 = ci := congrArg Prod.fst this
      omega
    · obtain ⟨k, hk⟩ : ∃ k, r = 1000000 + k := ⟨r - 1000000, by omega⟩
      subst hk
      rw [h5 k] at hw
      have h6 := hX.1 k
      unfold xat at h6
      rw [hw] at h6
      have h6 : ci = 1000 := h6
      omega
end
section
/-! walks over the pure world: PW says of a place in a method that the machine, there, comes to its end; each instruction is a row -/
abbrev pM : Type := MethodName × ByteArray × Nat × Option FieldType
abbrev pC : Type := Nat × List (Nat × Value) × List Value × pW
def wsM (M : pM) : List Cond := .code M.1 M.2.1 M.2.2.1 M.2.2.2 :: gtbl
def Ctx (G : pG) (M : pM) (p : Program) (s : State) (m : MethodId) (args : Array Value) (meth : Method) (c : Code) : Prop :=
  p.tables.exec = Jvm.exec ∧ c.code = M.2.1 ∧ c.maxLocals = M.2.2.1 ∧ meth.sig.returnType = M.2.2.2 ∧ meth.locks = false ∧ meth.name = M.1.name ∧ s.vm.findClass M.1.cls = some m.cls ∧ (∀ w ∈ gtbl, w.before args s = true) ∧ KX G s ∧ XX G s s.heap ∧ g_b G ≤ s.heap.size
def lt (G : pG) (l : List (Nat × Value)) : List (Nat × Value) := l.map (fun q => (q.1, tv (g_f G) q.2))
def PW (G : pG) (M : pM) (R : Room) (QF : List Frame → Array Value → State → State → Prop) (k n : Nat) (g : pC) : Prop :=
  ∀ (p : Program) (e : Env) (s : State) (m : MethodId) (args : Array Value) (below : List Frame) (meth : Method) (c : Code), Ctx G M p s m args meth c → ∀ (H : Heap) (locs : List Loc) (ls : Array Slot),
    lv_has ls M.2.2.1 (lt G g.2.1) → HW G g.2.2.2 H → va_S (g_A G) s.heap H locs → W p (g_l G) e R s m args below meth c H locs k n (QF below args s) (F0 m g.1 ls (g.2.2.1.map (tv (g_f G))))
/-- locals by their numbers -/
def lk (i : Nat) : List (Nat × Value) → Option Value
  | [] => none
  | q :: l => if i = q.1 then some q.2 else lk i l
theorem lk_mem {i : Nat} {v : Value} : ∀ {l : List (Nat × Value)}, lk i l = some v → (i, v) ∈ l
  | [], h => by cases h
  | q :: l, h => by
    unfold lk at h
    split at h
    · rename_i e
      cases h
      rw [e]
      exact List.mem_cons_self
    · exact List.mem_cons_of_mem _ (lk_mem h)
theorem lv_lk {G : pG} {ls : Array Slot} {nL i : Nat} {v : Value} {l : List (Nat × Value)} (h : lv_has ls nL (lt G l)) (hk : lk i l = some v) : ls[i]? = some (.val (tv (g_f G) v)) :=
  h.2.2 (i, tv (g_f G) v) (List.mem_map.mpr ⟨(i, v), lk_mem hk, rfl⟩)
def c1 (i : Nat) (q : Nat × Value) : Bool := !(q.1 == i) && !(q.1 + 1 == i && q.2.category == 2)
def c2 (i : Nat) (q : Nat × Value) : Bool := !(q.1 == i) && (!(q.1 == i + 1) && !(q.1 + 1 == i && q.2.category == 2))
/-- a local is stored, in its place of the list -/
def s1 (i : Nat) (v : Value) : List (Nat × Value) → List (Nat × Value)
  | [] => [(i, v)]
  | q :: l => if q.1 = i then (i, v) :: l.filter (c1 i) else if c1 i q = true then q :: s1 i v l else s1 i v l
def s2 (i : Nat) (v : Value) : List (Nat × Value) → List (Nat × Value)
  | [] => [(i, v)]
  | q :: l => if q.1 = i then (i, v) :: l.filter (c2 i) else if c2 i q = true then q :: s2 i v l else s2 i v l
theorem s1_mem {i : Nat} {v : Value} : ∀ {l : List (Nat × Value)} {x : Nat × Value}, x ∈ s1 i v l → x = (i, v) ∨ x ∈ l.filter (c1 i)
  | [], x, h => Or.inl (List.mem_singleton.mp h)
  | q :: l, x, h => by
    unfold s1 at h
    split at h
    · rename_i e
      rcases List.mem_cons.mp h with h | h
      · exact Or.inl h
      · exact Or.inr (List.mem_filter.mpr ⟨List.mem_cons_of_mem _ (List.mem_filter.mp h).1, (List.mem_filter.mp h).2⟩)
    · split at h
      · rename_i e1 e2
        rcases List.mem_cons.mp h with h | h
        · exact Or.inr (List.mem_filter.mpr ⟨by rw [h]; exact List.mem_cons_self, by rw [h]; exact e2⟩)
        · rcases s1_mem h with h | h
          · exact Or.inl h
          · exact Or.inr (List.mem_filter.mpr ⟨List.mem_cons_of_mem _ (List.mem_filter.mp h).1, (List.mem_filter.mp h).2⟩)
      · rcases s1_mem h with h | h
        · exact Or.inl h
        · exact Or.inr (List.mem_filter.mpr ⟨List.mem_cons_of_mem _ (List.mem_filter.mp h).1, (List.mem_filter.mp h).2⟩)
theorem s2_mem {i : Nat} {v : Value} : ∀ {l : List (Nat × Value)} {x : Nat × Value}, x ∈ s2 i v l → x = (i, v) ∨ x ∈ l.filter (c2 i)
  | [], x, h => Or.inl (List.mem_singleton.mp h)
  | q :: l, x, h => by
    unfold s2 at h
    split at h
    · rename_i e
      rcases List.mem_cons.mp h with h | h
      · exact Or.inl h
      · exact Or.inr (List.mem_filter.mpr ⟨List.mem_cons_of_mem _ (List.mem_filter.mp h).1, (List.mem_filter.mp h).2⟩)
    · split at h
      · rename_i e1 e2
        rcases List.mem_cons.mp h with h | h
        · exact Or.inr (List.mem_filter.mpr ⟨by rw [h]; exact List.mem_cons_self, by rw [h]; exact e2⟩)
        · rcases s2_mem h with h | h
          · exact Or.inl h
          · exact Or.inr (List.mem_filter.mpr ⟨List.mem_cons_of_mem _ (List.mem_filter.mp h).1, (List.mem_filter.mp h).2⟩)
      · rcases s2_mem h with h | h
        · exact Or.inl h
        · exact Or.inr (List.mem_filter.mpr ⟨List.mem_cons_of_mem _ (List.mem_filter.mp h).1, (List.mem_filter.mp h).2⟩)
theorem lt_f1 {G : pG} {i : Nat} {v x : Nat × Value} {l : List (Nat × Value)} (h : x ∈ l.filter (c1 i)) : (x.1, tv (g_f G) x.2) ∈ (lt G l).filter (fun q => !(q.1 == i) && !(q.1 + 1 == i && q.2.category == 2)) := by
  obtain ⟨h1, h2⟩ := List.mem_filter.mp h
  refine List.mem_filter.mpr ⟨List.mem_map.mpr ⟨x, h1, rfl⟩, ?_⟩
  show (!(x.1 == i) && !(x.1 + 1 == i && (tv (g_f G) x.2).category == 2)) = true
  rw [tv_cat]
  exact h2
theorem lt_f2 {G : pG} {i : Nat} {v x : Nat × Value} {l : List (Nat × Value)} (h : x ∈ l.filter (c2 i)) : (x.1, tv (g_f G) x.2) ∈ (lt G l).filter (fun q => !(q.1 == i) && (!(q.1 == i + 1) && !(q.1 + 1 == i && q.2.category == 2))) := by
  obtain ⟨h1, h2⟩ := List.mem_filter.mp h
  refine List.mem_filter.mpr ⟨List.mem_map.mpr ⟨x, h1, rfl⟩, ?_⟩
  show (!(x.1 == i) && (!(x.1 == i + 1) && !(x.1 + 1 == i && (tv (g_f G) x.2).category == 2))) = true
  rw [tv_cat]
  exact h2
theorem lv_s1 {G : pG} {ls : Array Slot} {nL i : Nat} {v : Value} {l : List (Nat × Value)} (h : lv_has ls nL ((i, tv (g_f G) v) :: (lt G l).filter (fun q => !(q.1 == i) && !(q.1 + 1 == i && q.2.category == 2)))) : lv_has ls nL (lt G (s1 i v l)) := by
  refine ⟨h.1, h.2.1, fun q hq => ?_⟩
  obtain ⟨x, hx, rfl⟩ := List.mem_map.mp hq
  rcases s1_mem hx with rfl | hx
  · exact h.2.2 _ List.mem_cons_self
  · exact h.2.2 _ (List.mem_cons_of_mem _ (lt_f1 (v := x) hx))
theorem lv_s2 {G : pG} {ls : Array Slot} {nL i : Nat} {v : Value} {l : List (Nat × Value)} (h : lv_has ls nL ((i, tv (g_f G) v) :: (lt G l).filter (fun q => !(q.1 == i) && (!(q.1 == i + 1) && !(q.1 + 1 == i && q.2.category == 2))))) : lv_has ls nL (lt G (s2 i v l)) := by
  refine ⟨h.1, h.2.1, fun q hq => ?_⟩
  obtain ⟨x, hx, rfl⟩ := List.mem_map.mp hq
  rcases s2_mem hx with rfl | hx
  · exact h.2.2 _ List.mem_cons_self
  · exact h.2.2 _ (List.mem_cons_of_mem _ (lt_f2 (v := x) hx))
section PWR
variable {G : pG} {M : pM} {R : Room} {QF : List Frame → Array Value → State → State → Prop} {k n pc : Nat} {lv : List (Nat × Value)} {st : List Value} {w : pW}
/-- fewer locals -/
theorem PW.drop {lv' : List (Nat × Value)} (h : ∀ q ∈ lv', q ∈ lv) (kk : PW G M R QF k n (pc, lv', st, w)) : PW G M R QF k n (pc, lv, st, w) :=
  fun p e s m args below meth c hc H locs ls hl hH hS => kk p e s m args below meth c hc H locs ls ⟨hl.1, hl.2.1, fun q hq => by
    obtain ⟨x, hx, rfl⟩ := List.mem_map.mp hq
    exact hl.2.2 _ (List.mem_map.mpr ⟨x, h x hx, rfl⟩)⟩ hH hS
theorem PW.wide {k' n' : Nat} (h1 : k ≤ k') (h2 : n ≤ n') (kk : PW G M R QF k' n' (pc, lv, st, w)) : PW G M R QF k n (pc, lv, st, w) :=
  fun p e s m args below meth c hc H locs ls hl hH hS => W.widen h1 h2 (kk p e s m args below meth c hc H locs ls hl hH hS)
theorem P_iconst {z : Int} {v : Int32} (d : decode M.2.1 pc = .ok (.iconst z, 1)) (hv : Int32.ofInt z = v) (kk : PW G M R QF k n (pc + 1, lv, .int v :: st, w)) : PW G M R QF k n (pc, lv, st, w) :=
  fun p e s m args below meth c hc H locs ls hl hH hS => lv_iconst hc.1 hc.2.1 d hv (kk p e s m args below meth c hc H locs ls hl hH hS)
theorem P_bipush {z : Int} {v : Int32} (d : decode M.2.1 pc = .ok (.bipush z, 2)) (hv : (Int8.ofInt z).toInt32 = v) (kk : PW G M R QF k n (pc + 2, lv, .int v :: st, w)) : PW G M R QF k n (pc, lv, st, w) :=
  fun p e s m args below meth c hc H locs ls hl hH hS => lv_bipush hc.1 hc.2.1 d hv (kk p e s m args below meth c hc H locs ls hl hH hS)
theorem P_sipush {z : Int} {v : Int32} (d : decode M.2.1 pc = .ok (.sipush z, 3)) (hv : (Int16.ofInt z).toInt32 = v) (kk : PW G M R QF k n (pc + 3, lv, .int v :: st, w)) : PW G M R QF k n (pc, lv, st, w) :=
  fun p e s m args below meth c hc H locs ls hl hH hS => lv_sipush hc.1 hc.2.1 d hv (kk p e s m args below meth c hc H locs ls hl hH hS)
theorem P_lconst {z : Fin 2} {v : Int64} (d : decode M.2.1 pc = .ok (.lconst z, 1)) (hv : Int64.ofNat (z : Nat) = v) (kk : PW G M R QF k n (pc + 1, lv, .long v :: st, w)) : PW G M R QF k n (pc, lv, st, w) :=
  fun p e s m args below meth c hc H locs ls hl hH hS => lv_lconst hc.1 hc.2.1 d hv (kk p e s m args below meth c hc H locs ls hl hH hS)
theorem P_ldc {i : Nat} {v : Int32} (d : decode M.2.1 pc = .ok (.ldc i, 2)) (hw : Cond.constant M.1.cls i v ∈ gtbl) (kk : PW G M R QF k n (pc + 2, lv, .int v :: st, w)) : PW G M R QF k n (pc, lv, st, w) :=
  fun p e s m args below meth c hc H locs ls hl hH hS => lv_ldc hc.1 hc.2.1 hc.2.2.2.2.2.2.1 (hc.2.2.2.2.2.2.2.1 _ hw) d (kk p e s m args below meth c hc H locs ls hl hH hS)
theorem P_ldcw {i : Nat} {v : Int32} (d : decode M.2.1 pc = .ok (.ldc_w i, 3)) (hw : Cond.constant M.1.cls i v ∈ gtbl) (kk : PW G M R QF k n (pc + 3, lv, .int v :: st, w)) : PW G M R QF k n (pc, lv, st, w) :=
  fun p e s m args below meth c hc H locs ls hl hH hS => lv_ldcw hc.1 hc.2.1 hc.2.2.2.2.2.2.1 (hc.2.2.2.2.2.2.2.1 _ hw) d (kk p e s m args below meth c hc H locs ls hl hH hS)
theorem P_ldc2 {i : Nat} {v : Int64} (d : decode M.2.1 pc = .ok (.ldc2_w i, 3)) (hw : Cond.constantLong M.1.cls i v ∈ gtbl) (kk : PW G M R QF k n (pc + 3, lv, .long v :: st, w)) : PW G M R QF k n (pc, lv, st, w) :=
  fun p e s m args below meth c hc H locs ls hl hH hS => lv_ldc2 hc.1 hc.2.1 hc.2.2.2.2.2.2.1 (hc.2.2.2.2.2.2.2.1 _ hw) d (kk p e s m args below meth c hc H locs ls hl hH hS)
theorem P_iload_n {j : Fin 4} {x : Int32} (d : decode M.2.1 pc = .ok (.iload_n j, 1)) (hv : lk (j : Nat) lv = some (.int x)) (kk : PW G M R QF k n (pc + 1, lv, .int x :: st, w)) : PW G M R QF k n (pc, lv, st, w) :=
  fun p e s m args below meth c hc H locs ls hl hH hS => lv_iload_n hc.1 hc.2.1 d rfl (lv_lk hl hv) (kk p e s m args below meth c hc H locs ls hl hH hS)
theorem P_iload {i : Nat} {x : Int32} (d : decode M.2.1 pc = .ok (.iload i, 2)) (hv : lk i lv = some (.int x)) (kk : PW G M R QF k n (pc + 2, lv, .int x :: st, w)) : PW G M R QF k n (pc, lv, st, w) :=
  fun p e s m args below meth c hc H locs ls hl hH hS => lv_iload hc.1 hc.2.1 d (lv_lk hl hv) (kk p e s m args below meth c hc H locs ls hl hH hS)
theorem P_lload_n {j : Fin 4} {x : Int64} (d : decode M.2.1 pc = .ok (.lload_n j, 1)) (hv : lk (j : Nat) lv = some (.long x)) (kk : PW G M R QF k n (pc + 1, lv, .long x :: st, w)) : PW G M R QF k n (pc, lv, st, w) :=
  fun p e s m args below meth c hc H locs ls hl hH hS => lv_lload_n hc.1 hc.2.1 d rfl (lv_lk hl hv) (kk p e s m args below meth c hc H locs ls hl hH hS)
theorem P_lload {i : Nat} {x : Int64} (d : decode M.2.1 pc = .ok (.lload i, 2)) (hv : lk i lv = some (.long x)) (kk : PW G M R QF k n (pc + 2, lv, .long x :: st, w)) : PW G M R QF k n (pc, lv, st, w) :=
  fun p e s m args below meth c hc H locs ls hl hH hS => lv_lload hc.1 hc.2.1 d (lv_lk hl hv) (kk p e s m args below meth c hc H locs ls hl hH hS)
theorem P_aload_n {j : Fin 4} {x : Nat} (d : decode M.2.1 pc = .ok (.aload_n j, 1)) (hv : lk (j : Nat) lv = some (.ref x)) (kk : PW G M R QF k n (pc + 1, lv, .ref x :: st, w)) : PW G M R QF k n (pc, lv, st, w) :=
  fun p e s m args below meth c hc H locs ls hl hH hS => lv_aload_n hc.1 hc.2.1 d rfl (lv_lk hl hv) (kk p e s m args below meth c hc H locs ls hl hH hS)
theorem P_aload {i : Nat} {x : Nat} (d : decode M.2.1 pc = .ok (.aload i, 2)) (hv : lk i lv = some (.ref x)) (kk : PW G M R QF k n (pc + 2, lv, .ref x :: st, w)) : PW G M R QF k n (pc, lv, st, w) :=
  fun p e s m args below meth c hc H locs ls hl hH hS => lv_aload hc.1 hc.2.1 d (lv_lk hl hv) (kk p e s m args below meth c hc H locs ls hl hH hS)
theorem P_istore_n {j : Fin 4} {x : Int32} {lv' : List (Nat × Value)} (d : decode M.2.1 pc = .ok (.istore_n j, 1)) (hj : (j : Nat) < M.2.2.1) (hv : s1 (j : Nat) (.int x) lv = lv') (kk : PW G M R QF k n (pc + 1, lv', st, w)) : PW G M R QF k n (pc, lv, .int x :: st, w) :=
  fun p e s m args below meth c hc H locs ls hl hH hS => lv_istore_n hc.1 hc.2.1 d rfl hl hj rfl (fun ls' hl' => kk p e s m args below meth c hc H locs ls' (hv ▸ lv_s1 (v := .int x) hl') hH hS)
theorem P_istore {i : Nat} {x : Int32} {lv' : List (Nat × Value)} (d : decode M.2.1 pc = .ok (.istore i, 2)) (hj : i < M.2.2.1) (hv : s1 i (.int x) lv = lv') (kk : PW G M R QF k n (pc + 2, lv', st, w)) : PW G M R QF k n (pc, lv, .int x :: st, w) :=
  fun p e s m args below meth c hc H locs ls hl hH hS => lv_istore hc.1 hc.2.1 d hl hj rfl (fun ls' hl' => kk p e s m args below meth c hc H locs ls' (hv ▸ lv_s1 (v := .int x) hl') hH hS)
theorem P_lstore_n {j : Fin 4} {x : Int64} {lv' : List (Nat × Value)} (d : decode M.2.1 pc = .ok (.lstore_n j, 1)) (hj : (j : Nat) + 1 < M.2.2.1) (hv : s2 (j : Nat) (.long x) lv = lv') (kk : PW G M R QF k n (pc + 1, lv', st, w)) : PW G M R QF k n (pc, lv, .long x :: st, w) :=
  fun p e s m args below meth c hc H locs ls hl hH hS => lv_lstore_n hc.1 hc.2.1 d rfl hl hj rfl (fun ls' hl' => kk p e s m args below meth c hc H locs ls' (hv ▸ lv_s2 (v := .long x) hl') hH hS)
theorem P_lstore {i : Nat} {x : Int64} {lv' : List (Nat × Value)} (d : decode M.2.1 pc = .ok (.lstore i, 2)) (hj : i + 1 < M.2.2.1) (hv : s2 i (.long x) lv = lv') (kk : PW G M R QF k n (pc + 2, lv', st, w)) : PW G M R QF k n (pc, lv, .long x :: st, w) :=
  fun p e s m args below meth c hc H locs ls hl hH hS => lv_lstore hc.1 hc.2.1 d hl hj rfl (fun ls' hl' => kk p e s m args below meth c hc H locs ls' (hv ▸ lv_s2 (v := .long x) hl') hH hS)
theorem P_astore_n {j : Fin 4} {x : Nat} {lv' : List (Nat × Value)} (d : decode M.2.1 pc = .ok (.astore_n j, 1)) (hj : (j : Nat) < M.2.2.1) (hv : s1 (j : Nat) (.ref x) lv = lv') (kk : PW G M R QF k n (pc + 1, lv', st, w)) : PW G M R QF k n (pc, lv, .ref x :: st, w) :=
  fun p e s m args below meth c hc H locs ls hl hH hS => lv_astore_n hc.1 hc.2.1 d rfl hl hj rfl (fun ls' hl' => kk p e s m args below meth c hc H locs ls' (hv ▸ lv_s1 (v := .ref x) hl') hH hS)
theorem P_astore {i : Nat} {x : Nat} {lv' : List (Nat × Value)} (d : decode M.2.1 pc = .ok (.astore i, 2)) (hj : i < M.2.2.1) (hv : s1 i (.ref x) lv = lv') (kk : PW G M R QF k n (pc + 2, lv', st, w)) : PW G M R QF k n (pc, lv, .ref x :: st, w) :=
  fun p e s m args below meth c hc H locs ls hl hH hS => lv_astore hc.1 hc.2.1 d hl hj rfl (fun ls' hl' => kk p e s m args below meth c hc H locs ls' (hv ▸ lv_s1 (v := .ref x) hl') hH hS)
theorem P_iinc {i : Nat} {z : Int} {x v : Int32} {lv' : List (Nat × Value)} (d : decode M.2.1 pc = .ok (.iinc i z, 3)) (hj : i < M.2.2.1) (hx : lk i lv = some (.int x)) (hz : x + Int32.ofInt z = v) (hv : s1 i (.int v) lv = lv') (kk : PW G M R QF k n (pc + 3, lv', st, w)) : PW G M R QF k n (pc, lv, st, w) := by
  intro p e s m args below meth c hc H locs ls hl hH hS
  obtain ⟨q, hq⟩ := List.getElem?_of_mem (List.mem_map.mpr ⟨(i, Value.int x), lk_mem hx, rfl⟩ : (i, tv (g_f G) (.int x)) ∈ lt G lv)
  exact lv_iinc hc.1 hc.2.1 d hl hq hz hj rfl (fun ls' hl' => kk p e s m args below meth c hc H locs ls' (hv ▸ lv_s1 (v := .int v) hl') hH hS)
theorem P_iadd {x y : Int32} (d : decode M.2.1 pc = .ok (.iadd, 1)) (kk : PW G M R QF k n (pc + 1, lv, .int (x + y) :: st, w)) : PW G M R QF k n (pc, lv, .int y :: .int x :: st, w) :=
  fun p e s m args below meth c hc H locs ls hl hH hS => lv_iadd hc.1 hc.2.1 d (kk p e s m args below meth c hc H locs ls hl hH hS)
theorem P_isub {x y : Int32} (d : decode M.2.1 pc = .ok (.isub, 1)) (kk : PW G M R QF k n (pc + 1, lv, .int (x - y) :: st, w)) : PW G M R QF k n (pc, lv, .int y :: .int x :: st, w) :=
  fun p e s m args below meth c hc H locs ls hl hH hS => lv_isub hc.1 hc.2.1 d (kk p e s m args below meth c hc H locs ls hl hH hS)
theorem P_imul {x y : Int32} (d : decode M.2.1 pc = .ok (.imul, 1)) (kk : PW G M R QF k n (pc + 1, lv, .int (x * y) :: st, w)) : PW G M R QF k n (pc, lv, .int y :: .int x :: st, w) :=
  fun p e s m args below meth c hc H locs ls hl hH hS => lv_imul hc.1 hc.2.1 d (kk p e s m args below meth c hc H locs ls hl hH hS)
theorem P_iand {x y : Int32} (d : decode M.2.1 pc = .ok (.iand, 1)) (kk : PW G M R QF k n (pc + 1, lv, .int (x &&& y) :: st, w)) : PW G M R QF k n (pc, lv, .int y :: .int x :: st, w) :=
  fun p e s m args below meth c hc H locs ls hl hH hS => lv_iand hc.1 hc.2.1 d (kk p e s m args below meth c hc H locs ls hl hH hS)
theorem P_ior {x y : Int32} (d : decode M.2.1 pc = .ok (.ior, 1)) (kk : PW G M R QF k n (pc + 1, lv, .int (x ||| y) :: st, w)) : PW G M R QF k n (pc, lv, .int y :: .int x :: st, w) :=
  fun p e s m args below meth c hc H locs ls hl hH hS => lv_ior hc.1 hc.2.1 d (kk p e s m args below meth c hc H locs ls hl hH hS)
theorem P_ixor {x y : Int32} (d : decode M.2.1 pc = .ok (.ixor, 1)) (kk : PW G M R QF k n (pc + 1, lv, .int (x ^^^ y) :: st, w)) : PW G M R QF k n (pc, lv, .int y :: .int x :: st, w) :=
  fun p e s m args below meth c hc H locs ls hl hH hS => lv_ixor hc.1 hc.2.1 d (kk p e s m args below meth c hc H locs ls hl hH hS)
theorem P_ishl {x y : Int32} (d : decode M.2.1 pc = .ok (.ishl, 1)) (kk : PW G M R QF k n (pc + 1, lv, .int (x <<< (y &&& 31)) :: st, w)) : PW G M R QF k n (pc, lv, .int y :: .int x :: st, w) :=
  fun p e s m args below meth c hc H locs ls hl hH hS => lv_ishl hc.1 hc.2.1 d (kk p e s m args below meth c hc H locs ls hl hH hS)
theorem P_ishr {x y : Int32} (d : decode M.2.1 pc = .ok (.ishr, 1)) (kk : PW G M R QF k n (pc + 1, lv, .int (x >>> (y &&& 31)) :: st, w)) : PW G M R QF k n (pc, lv, .int y :: .int x :: st, w) :=
  fun p e s m args below meth c hc H locs ls hl hH hS => lv_ishr hc.1 hc.2.1 d (kk p e s m args below meth c hc H locs ls hl hH hS)
theorem P_ladd {x y : Int64} (d : decode M.2.1 pc = .ok (.ladd, 1)) (kk : PW G M R QF k n (pc + 1, lv, .long (x + y) :: st, w)) : PW G M R QF k n (pc, lv, .long y :: .long x :: st, w) :=
  fun p e s m args below meth c hc H locs ls hl hH hS => lv_ladd hc.1 hc.2.1 d (kk p e s m args below meth c hc H locs ls hl hH hS)
theorem P_lsub {x y : Int64} (d : decode M.2.1 pc = .ok (.lsub, 1)) (kk : PW G M R QF k n (pc + 1, lv, .long (x - y) :: st, w)) : PW G M R QF k n (pc, lv, .long y :: .long x :: st, w) :=
  fun p e s m args below meth c hc H locs ls hl hH hS => lv_lsub hc.1 hc.2.1 d (kk p e s m args below meth c hc H locs ls hl hH hS)
theorem P_lmul {x y : Int64} (d : decode M.2.1 pc = .ok (.lmul, 1)) (kk : PW G M R QF k n (pc + 1, lv, .long (x * y) :: st, w)) : PW G M R QF k n (pc, lv, .long y :: .long x :: st, w) :=
  fun p e s m args below meth c hc H locs ls hl hH hS => lv_lmul hc.1 hc.2.1 d (kk p e s m args below meth c hc H locs ls hl hH hS)
theorem P_idiv {x y : Int32} (d : decode M.2.1 pc = .ok (.idiv, 1)) (hne : ¬ y = 0) (kk : PW G M R QF k n (pc + 1, lv, .int (x / y) :: st, w)) : PW G M R QF k n (pc, lv, .int y :: .int x :: st, w) :=
  fun p e s m args below meth c hc H locs ls hl hH hS => lv_idiv hc.1 hc.2.1 d hne (kk p e s m args below meth c hc H locs ls hl hH hS)
theorem P_irem {x y : Int32} (d : decode M.2.1 pc = .ok (.irem, 1)) (hne : ¬ y = 0) (kk : PW G M R QF k n (pc + 1, lv, .int (x - x / y * y) :: st, w)) : PW G M R QF k n (pc, lv, .int y :: .int x :: st, w) :=
  fun p e s m args below meth c hc H locs ls hl hH hS => lv_irem hc.1 hc.2.1 d hne (kk p e s m args below meth c hc H locs ls hl hH hS)
theorem P_ldiv {x y : Int64} (d : decode M.2.1 pc = .ok (.ldiv, 1)) (hne : ¬ y = 0) (kk : PW G M R QF k n (pc + 1, lv, .long (x / y) :: st, w)) : PW G M R QF k n (pc, lv, .long y :: .long x :: st, w) :=
  fun p e s m args below meth c hc H locs ls hl hH hS => lv_ldiv hc.1 hc.2.1 d hne (kk p e s m args below meth c hc H locs ls hl hH hS)
theorem P_lrem {x y : Int64} (d : decode M.2.1 pc = .ok (.lrem, 1)) (hne : ¬ y = 0) (kk : PW G M R QF k n (pc + 1, lv, .long (x - x / y * y) :: st, w)) : PW G M R QF k n (pc, lv, .long y :: .long x :: st, w) :=
  fun p e s m args below meth c hc H locs ls hl hH hS => lv_lrem hc.1 hc.2.1 d hne (kk p e s m args below meth c hc H locs ls hl hH hS)
theorem P_ineg {x : Int32} (d : decode M.2.1 pc = .ok (.ineg, 1)) (kk : PW G M R QF k n (pc + 1, lv, .int (-x) :: st, w)) : PW G M R QF k n (pc, lv, .int x :: st, w) :=
  fun p e s m args below meth c hc H locs ls hl hH hS => lv_ineg hc.1 hc.2.1 d (kk p e s m args below meth c hc H locs ls hl hH hS)
theorem P_lneg {x : Int64} (d : decode M.2.1 pc = .ok (.lneg, 1)) (kk : PW G M R QF k n (pc + 1, lv, .long (-x) :: st, w)) : PW G M R QF k n (pc, lv, .long x :: st, w) :=
  fun p e s m args below meth c hc H locs ls hl hH hS => lv_lneg hc.1 hc.2.1 d (kk p e s m args below meth c hc H locs ls hl hH hS)
theorem P_i2l {x : Int32} (d : decode M.2.1 pc = .ok (.i2l, 1)) (kk : PW G M R QF k n (pc + 1, lv, .long x.toInt64 :: st, w)) : PW G M R QF k n (pc, lv, .int x :: st, w) :=
  fun p e s m args below meth c hc H locs ls hl hH hS => lv_i2l hc.1 hc.2.1 d rfl (kk p e s m args below meth c hc H locs ls hl hH hS)
theorem P_l2i {x : Int64} (d : decode M.2.1 pc = .ok (.l2i, 1)) (kk : PW G M R QF k n (pc + 1, lv, .int x.toInt32 :: st, w)) : PW G M R QF k n (pc, lv, .long x :: st, w) :=
  fun p e s m args below meth c hc H locs ls hl hH hS => lv_l2i hc.1 hc.2.1 d rfl (kk p e s m args below meth c hc H locs ls hl hH hS)
theorem P_iushr {x y : Int32} (d : decode M.2.1 pc = .ok (.iushr, 1)) (kk : PW G M R QF k n (pc + 1, lv, .int (x.toUInt32 >>> (y.toUInt32 &&& Int32.toUInt32 31)).toInt32 :: st, w)) : PW G M R QF k n (pc, lv, .int y :: .int x :: st, w) :=
  fun p e s m args below meth c hc H locs ls hl hH hS => lv_iushr hc.1 hc.2.1 d rfl (kk p e s m args below meth c hc H locs ls hl hH hS)
theorem P_lcmp {x y : Int64} (d : decode M.2.1 pc = .ok (.lcmp, 1)) (kk : PW G M R QF k n (pc + 1, lv, .int (lg_cmp x y) :: st, w)) : PW G M R QF k n (pc, lv, .long y :: .long x :: st, w) :=
  fun p e s m args below meth c hc H locs ls hl hH hS => W.lcmp hc.1 hc.2.1 d (kk p e s m args below meth c hc H locs ls hl hH hS)
theorem P_goto {off : Int} (tgt : Nat) (d : decode M.2.1 pc = .ok (.goto off, 3)) (ht : (pc : Int) + off = (tgt : Int)) (kk : PW G M R QF k n (tgt, lv, st, w)) : PW G M R QF k n (pc, lv, st, w) :=
  fun p e s m args below meth c hc H locs ls hl hH hS => lv_goto hc.1 hc.2.1 d ht (kk p e s m args below meth c hc H locs ls hl hH hS)
theorem P_dup {v : Value} (d : decode M.2.1 pc = .ok (.dup, 1)) (hv : v.category = 1) (kk : PW G M R QF k n (pc + 1, lv, v :: v :: st, w)) : PW G M R QF k n (pc, lv, v :: st, w) :=
  fun p e s m args below meth c hc H locs ls hl hH hS => lv_dup hc.1 hc.2.1 d ((tv_cat _ v).trans hv) (kk p e s m args below meth c hc H locs ls hl hH hS)
theorem P_dup2 {v u : Value} (d : decode M.2.1 pc = .ok (.dup2, 1)) (hv : v.category = 1) (hu : u.category = 1) (kk : PW G M R QF k n (pc + 1, lv, v :: u :: v :: u :: st, w)) : PW G M R QF k n (pc, lv, v :: u :: st, w) :=
  fun p e s m args below meth c hc H locs ls hl hH hS => lv_dup2_11 hc.1 hc.2.1 d ((tv_cat _ v).trans hv) ((tv_cat _ u).trans hu) (kk p e s m args below meth c hc H locs ls hl hH hS)
theorem P_pop {v : Value} (d : decode M.2.1 pc = .ok (.pop, 1)) (hv : v.category = 1) (kk : PW G M R QF k n (pc + 1, lv, st, w)) : PW G M R QF k n (pc, lv, v :: st, w) :=
  fun p e s m args below meth c hc H locs ls hl hH hS => lv_pop hc.1 hc.2.1 d ((tv_cat _ v).trans hv) (kk p e s m args below meth c hc H locs ls hl hH hS)
theorem P_if_eq {x : Int32} {off : Int} (tgt : Nat) (d : decode M.2.1 pc = .ok (.ifCond .eq off, 3)) (ht : (pc : Int) + off = (tgt : Int)) (kt : x = 0 → PW G M R QF k n (tgt, lv, st, w)) (kf : ¬ x = 0 → PW G M R QF k n (pc + 3, lv, st, w)) : PW G M R QF k n (pc, lv, .int x :: st, w) :=
  fun p e s m args below meth c hc H locs ls hl hH hS => lv_if_eq hc.1 hc.2.1 d ht (fun h => kt h p e s m args below meth c hc H locs ls hl hH hS) (fun h => kf h p e s m args below meth c hc H locs ls hl hH hS)
theorem P_icmp_eq {x y : Int32} {off : Int} (tgt : Nat) (d : decode M.2.1 pc = .ok (.if_icmp .eq off, 3)) (ht : (pc : Int) + off = (tgt : Int)) (kt : x = y → PW G M R QF k n (tgt, lv, st, w)) (kf : ¬ x = y → PW G M R QF k n (pc + 3, lv, st, w)) : PW G M R QF k n (pc, lv, .int y :: .int x :: st, w) :=
  fun p e s m args below meth c hc H locs ls hl hH hS => lv_icmp_eq hc.1 hc.2.1 d ht (fun h => kt h p e s m args below meth c hc H locs ls hl hH hS) (fun h => kf h p e s m args below meth c hc H locs ls hl hH hS)
theorem P_if_ne {x : Int32} {off : Int} (tgt : Nat) (d : decode M.2.1 pc = .ok (.ifCond .ne off, 3)) (ht : (pc : Int) + off = (tgt : Int)) (kt : ¬ x = 0 → PW G M R QF k n (tgt, lv, st, w)) (kf : x = 0 → PW G M R QF k n (pc + 3, lv, st, w)) : PW G M R QF k n (pc, lv, .int x :: st, w) :=
  fun p e s m args below meth c hc H locs ls hl hH hS => lv_if_ne hc.1 hc.2.1 d ht (fun h => kt h p e s m args below meth c hc H locs ls hl hH hS) (fun h => kf h p e s m args below meth c hc H locs ls hl hH hS)
theorem P_icmp_ne {x y : Int32} {off : Int} (tgt : Nat) (d : decode M.2.1 pc = .ok (.if_icmp .ne off, 3)) (ht : (pc : Int) + off = (tgt : Int)) (kt : ¬ x = y → PW G M R QF k n (tgt, lv, st, w)) (kf : x = y → PW G M R QF k n (pc + 3, lv, st, w)) : PW G M R QF k n (pc, lv, .int y :: .int x :: st, w) :=
  fun p e s m args below meth c hc H locs ls hl hH hS => lv_icmp_ne hc.1 hc.2.1 d ht (fun h => kt h p e s m args below meth c hc H locs ls hl hH hS) (fun h => kf h p e s m args below meth c hc H locs ls hl hH hS)
theorem P_if_lt {x : Int32} {off : Int} (tgt : Nat) (d : decode M.2.1 pc = .ok (.ifCond .lt off, 3)) (ht : (pc : Int) + off = (tgt : Int)) (kt : x < 0 → PW G M R QF k n (tgt, lv, st, w)) (kf : ¬ x < 0 → PW G M R QF k n (pc + 3, lv, st, w)) : PW G M R QF k n (pc, lv, .int x :: st, w) :=
  fun p e s m args below meth c hc H locs ls hl hH hS => lv_if_lt hc.1 hc.2.1 d ht (fun h => kt h p e s m args below meth c hc H locs ls hl hH hS) (fun h => kf h p e s m args below meth c hc H locs ls hl hH hS)
theorem P_icmp_lt {x y : Int32} {off : Int} (tgt : Nat) (d : decode M.2.1 pc = .ok (.if_icmp .lt off, 3)) (ht : (pc : Int) + off = (tgt : Int)) (kt : x < y → PW G M R QF k n (tgt, lv, st, w)) (kf : ¬ x < y → PW G M R QF k n (pc + 3, lv, st, w)) : PW G M R QF k n (pc, lv, .int y :: .int x :: st, w) :=
  fun p e s m args below meth c hc H locs ls hl hH hS => lv_icmp_lt hc.1 hc.2.1 d ht (fun h => kt h p e s m args below meth c hc H locs ls hl hH hS) (fun h => kf h p e s m args below meth c hc H locs ls hl hH hS)
theorem P_if_ge {x : Int32} {off : Int} (tgt : Nat) (d : decode M.2.1 pc = .ok (.ifCond .ge off, 3)) (ht : (pc : Int) + off = (tgt : Int)) (kt : 0 ≤ x → PW G M R QF k n (tgt, lv, st, w)) (kf : ¬ 0 ≤ x → PW G M R QF k n (pc + 3, lv, st, w)) : PW G M R QF k n (pc, lv, .int x :: st, w) :=
  fun p e s m args below meth c hc H locs ls hl hH hS => lv_if_ge hc.1 hc.2.1 d ht (fun h => kt h p e s m args below meth c hc H locs ls hl hH hS) (fun h => kf h p e s m args below meth c hc H locs ls hl hH hS)
theorem P_icmp_ge {x y : Int32} {off : Int} (tgt : Nat) (d : decode M.2.1 pc = .ok (.if_icmp .ge off, 3)) (ht : (pc : Int) + off = (tgt : Int)) (kt : y ≤ x → PW G M R QF k n (tgt, lv, st, w)) (kf : ¬ y ≤ x → PW G M R QF k n (pc + 3, lv, st, w)) : PW G M R QF k n (pc, lv, .int y :: .int x :: st, w) :=
  fun p e s m args below meth c hc H locs ls hl hH hS => lv_icmp_ge hc.1 hc.2.1 d ht (fun h => kt h p e s m args below meth c hc H locs ls hl hH hS) (fun h => kf h p e s m args below meth c hc H locs ls hl hH hS)
theorem P_if_gt {x : Int32} {off : Int} (tgt : Nat) (d : decode M.2.1 pc = .ok (.ifCond .gt off, 3)) (ht : (pc : Int) + off = (tgt : Int)) (kt : 0 < x → PW G M R QF k n (tgt, lv, st, w)) (kf : ¬ 0 < x → PW G M R QF k n (pc + 3, lv, st, w)) : PW G M R QF k n (pc, lv, .int x :: st, w) :=
  fun p e s m args below meth c hc H locs ls hl hH hS => lv_if_gt hc.1 hc.2.1 d ht (fun h => kt h p e s m args below meth c hc H locs ls hl hH hS) (fun h => kf h p e s m args below meth c hc H locs ls hl hH hS)
theorem P_icmp_gt {x y : Int32} {off : Int} (tgt : Nat) (d : decode M.2.1 pc = .ok (.if_icmp .gt off, 3)) (ht : (pc : Int) + off = (tgt : Int)) (kt : y < x → PW G M R QF k n (tgt, lv, st, w)) (kf : ¬ y < x → PW G M R QF k n (pc + 3, lv, st, w)) : PW G M R QF k n (pc, lv, .int y :: .int x :: st, w) :=
  fun p e s m args below meth c hc H locs ls hl hH hS => lv_icmp_gt hc.1 hc.2.1 d ht (fun h => kt h p e s m args below meth c hc H locs ls hl hH hS) (fun h => kf h p e s m args below meth c hc H locs ls hl hH hS)
theorem P_if_le {x : Int32} {off : Int} (tgt : Nat) (d : decode M.2.1 pc = .ok (.ifCond .le off, 3)) (ht : (pc : Int) + off = (tgt : Int)) (kt : x ≤ 0 → PW G M R QF k n (tgt, lv, st, w)) (kf : ¬ x ≤ 0 → PW G M R QF k n (pc + 3, lv, st, w)) : PW G M R QF k n (pc, lv, .int x :: st, w) :=
  fun p e s m args below meth c hc H locs ls hl hH hS => lv_if_le hc.1 hc.2.1 d ht (fun h => kt h p e s m args below meth c hc H locs ls hl hH hS) (fun h => kf h p e s m args below meth c hc H locs ls hl hH hS)
theorem P_icmp_le {x y : Int32} {off : Int} (tgt : Nat) (d : decode M.2.1 pc = .ok (.if_icmp .le off, 3)) (ht : (pc : Int) + off = (tgt : Int)) (kt : x ≤ y → PW G M R QF k n (tgt, lv, st, w)) (kf : ¬ x ≤ y → PW G M R QF k n (pc + 3, lv, st, w)) : PW G M R QF k n (pc, lv, .int y :: .int x :: st, w) :=
  fun p e s m args below meth c hc H locs ls hl hH hS => lv_icmp_le hc.1 hc.2.1 d ht (fun h => kt h p e s m args below meth c hc H locs ls hl hH hS) (fun h => kf h p e s m args below meth c hc H locs ls hl hH hS)
end PWR
end
section
/-! fields, arrays, new things -/
def COK (ci : Nat) (C : String) (T : u_T) (N : Nat) (ty : Nat → FieldType) : Prop :=
  classes[ci]? = some (C, T, N) ∧ (∀ w ∈ u_ws C T N, w ∈ gtbl) ∧ (∀ k, k < N → parseFieldDescriptor (T k).2.2.1 = some (ty k)) ∧ ∀ a, a < N → ∀ b, b < N → a ≠ b → (T a).2.1 ≠ (T b).2.1
theorem va_P1 {D : va_G} {cl : List vw_C} {q : Nat × va_E} {H : Heap} (h : va_at D cl q H) : va_P D cl [q] H := by
  intro k x hx
  have hz : k < 1 := (List.getElem?_eq_some_iff.mp hx).1
  rw [show k = 0 by omega] at hx
  cases hx
  exact h
/-- an int that is an index -/
def ix (i : Int32) (j : Nat) : Prop := i.toNatClampNeg = j ∧ ¬ i < 0
theorem ix_nI {j : Nat} (h : j < 2 ^ 31) : ix (nI j) j := ⟨nI_clamp h, nI_pos h⟩
theorem ix_in {i : Int32} {j N n : Nat} (h : ix i j) (hj : j < n) (hn : n ≤ N) : ¬ (i < 0 ∨ N ≤ i.toNatClampNeg) := by
  rintro (q | q)
  · exact h.2 q
  · rw [h.1] at q; omega
section PWH
variable {G : pG} {M : pM} {R : Room} {QF : List Frame → Array Value → State → State → Prop} {k n pc : Nat} {lv : List (Nat × Value)} {st : List Value} {w : pW}
theorem P_getf {ci N i index r : Nat} {C : String} {T : u_T} {ty : Nat → FieldType} {fs : List Value} {v : Value} (d : decode M.2.1 pc = .ok (.getfield index, 3)) (ok : COK ci C T N ty) (hk : i < N) (hlink : Cond.fieldLink M.1.cls index (T i).1 (T i).2.1 (T i).2.2.1 ∈ gtbl) (hw : w.2 r = .inr (ci, fs)) (hv : fs[i]? = some v)
    (kk : PW G M R QF k n (pc + 3, lv, v :: st, w)) : PW G M R QF k n (pc, lv, .ref r :: st, w) := by
  intro p e s m args below meth c hc H locs ls hl hH hS
  obtain ⟨h1, h2, h3⟩ := pe_obj hc.2.2.2.2.2.2.2.2.2.1 hH ok.1 hw
  exact va_get (C := C) (T := T) (N := N) hc.1 hc.2.1 hc.2.2.2.2.2.2.2.1 ok.2.1 hc.2.2.2.2.2.2.1 hc.2.2.2.2.2.2.2.2.1.1 (va_P1 (q := (g_f G r, .inr (ci, fs.map (tv (g_f G))))) ⟨_, ok.1, h3⟩) 0 rfl ok.1 i hk (hc.2.2.2.2.2.2.2.1 _ hlink) (fun _ h => h) (v := tv (g_f G) v) (by rw [List.getElem?_map, hv]; rfl) d (kk p e s m args below meth c hc H locs ls hl hH hS)
theorem P_getfN {ci N i index r : Nat} {C host : String} {T : u_T} {ty : Nat → FieldType} {fs : List Value} {v : Value} (d : decode M.2.1 pc = .ok (.getfield index, 3)) (ok : COK ci C T N ty) (hk : i < N) (hlink : Cond.fieldLinkNest M.1.cls index (T i).1 (T i).2.1 (T i).2.2.1 host ∈ ntbl) (hw : w.2 r = .inr (ci, fs)) (hv : fs[i]? = some v)
    (kk : PW G M R QF k n (pc + 3, lv, v :: st, w)) : PW G M R QF k n (pc, lv, .ref r :: st, w) := by
  intro p e s m args below meth c hc H locs ls hl hH hS
  obtain ⟨h1, h2, h3⟩ := pe_obj hc.2.2.2.2.2.2.2.2.2.1 hH ok.1 hw
  exact va_getN (C := C) (T := T) (N := N) hc.1 hc.2.1 hc.2.2.2.2.2.2.2.1 ok.2.1 hc.2.2.2.2.2.2.1 hc.2.2.2.2.2.2.2.2.1.1 (va_P1 (q := (g_f G r, .inr (ci, fs.map (tv (g_f G))))) ⟨_, ok.1, h3⟩) 0 rfl ok.1 i hk (va_Nw.use rfl (hc.2.2.2.2.2.2.2.2.1.2.1 _ hlink)) (fun _ h => h) (v := tv (g_f G) v) (by rw [List.getElem?_map, hv]; rfl) d (kk p e s m args below meth c hc H locs ls hl hH hS)
/-- what a store in a field makes of the world -/
theorem put_w {args : Array Value} {ci N i r : Nat} {C : String} {T : u_T} {ty : Nat → FieldType} {fs : List Value} {v : Value} {H H1 : Heap} {s : State} {cell : Cell} (ok : COK ci C T N ty) (hts : ∀ w ∈ gtbl, w.before args s = true) (hK : va_K (g_D G) classes (tysG G) s) (hk : i < N) (hH : HW G w H) (hr : r < w.1) (hl : fs.length = N) (q2 : cell.cls = (g_D G).1 ci) (q3 : cell.vm = .none) (q4 : ∀ j, j < N → cell.slots[(g_D G).2 ci j]? = some (vp_V (fs.map (tv (g_f G))) j))
    (e1 : H1[g_f G r]? = some (cell.setSlot ((g_D G).2 ci i) (tv (g_f G) v))) (e2 : H1.size = H.size) (e3 : ∀ q : Nat, q ≠ g_f G r → H1[q]? = H[q]?) : HW G (w.1, wu w.2 r (.inr (ci, fs.set i v))) H1 := by
  have hap := va_apart (own := C) hts ok.2.1 ty ok.2.2.1 ok.2.2.2 hK ok.1
  refine hH.set hr (Or.inr ⟨_, ok.1, by simp [hl], ?_⟩) e2 e3
  refine t_OB.to (V := updV (vp_V (fs.map (tv (g_f G)))) i (tv (g_f G) v)) ⟨_, e1, q2, q3, t_set q4 hap hk _⟩ (fun j _ => ?_)
  rw [List.map_set]
  exact vp_updV_set (by simp [hl]; exact hk) _ j
theorem P_put {ci N i index r : Nat} {C : String} {T : u_T} {ty : Nat → FieldType} {fs : List Value} {v : Value} (d : decode M.2.1 pc = .ok (.putfield index, 3)) (ok : COK ci C T N ty) (hk : i < N) (hfin : (T i).2.2.2 = false) (hlink : Cond.fieldLink M.1.cls index (T i).1 (T i).2.1 (T i).2.2.1 ∈ gtbl) (hw : w.2 r = .inr (ci, fs)) (hn : ∀ f, narrow (ty i) (tv f v) = tv f v) (hfit : ∀ f, fits (ty i) (tv f v) = true)
    (kk : PW G M R QF k n (pc + 3, lv, st, (w.1, wu w.2 r (.inr (ci, fs.set i v))))) : PW G M R QF k n (pc, lv, v :: .ref r :: st, w) := by
  intro p e s m args below meth c hc H locs ls hl hH hS
  obtain ⟨h1, h2, h3⟩ := pe_obj hc.2.2.2.2.2.2.2.2.2.1 hH ok.1 hw
  have hts := hc.2.2.2.2.2.2.2.1
  have hown := hc.2.2.2.2.2.2.1
  have hK := hc.2.2.2.2.2.2.2.2.1.1
  obtain ⟨cell, q1, q2, q3, q4⟩ := h3
  obtain ⟨hSl, hfc, kC, hkC, hkind⟩ := hK.1 ci _ ok.1
  obtain ⟨cf, kf, fi, f, hi, hsl⟩ := hSl i hk
  have hlay := hts _ (ok.2.1 _ (u_in_lay hk))
  unfold u_lay at hlay
  rw [if_neg (by rw [hfin]; decide)] at hlay
  have hst := (u_facts hfc hkC (u_lays hts ok.2.1 hk) hi).1
  have h6 := u_store hfc hkC hkind hlay hi (ok.2.2.1 i hk) (hn (g_f G)) (hfit (g_f G))
  refine W.putK hc.1 hc.2.1 (f := f) ⟨hown, hts _ hlink, ⟨_, _, _, hi⟩, hst⟩ (by rw [q2]; exact h6) q1 q3 (by rw [hsl]; exact k2_hasslot (q4 i hk)) rfl rfl d fun H' e1 e2 e3 => ?_
  rw [hsl] at e1 ⊢
  exact kk p e s m args below meth c hc H' _ ls hl (put_w ok hts hK hk hH h1 h2 q2 q3 q4 e1 e2 e3) (hS.put e2 e3 (g_A_f (Nat.lt_of_lt_of_le h1 hH.2.1)))
theorem P_putN {ci N i index r : Nat} {C host : String} {T : u_T} {ty : Nat → FieldType} {fs : List Value} {v : Value} (d : decode M.2.1 pc = .ok (.putfield index, 3)) (ok : COK ci C T N ty) (hk : i < N) (hfin : (T i).2.2.2 = false) (hlink : Cond.fieldLinkNest M.1.cls index (T i).1 (T i).2.1 (T i).2.2.1 host ∈ ntbl) (hw : w.2 r = .inr (ci, fs)) (hn : ∀ f, narrow (ty i) (tv f v) = tv f v) (hfit : ∀ f, fits (ty i) (tv f v) = true)
    (kk : PW G M R QF k n (pc + 3, lv, st, (w.1, wu w.2 r (.inr (ci, fs.set i v))))) : PW G M R QF k n (pc, lv, v :: .ref r :: st, w) := by
  intro p e s m args below meth c hc H locs ls hl hH hS
  obtain ⟨h1, h2, h3⟩ := pe_obj hc.2.2.2.2.2.2.2.2.2.1 hH ok.1 hw
  have hts := hc.2.2.2.2.2.2.2.1
  have hown := hc.2.2.2.2.2.2.1
  have hK := hc.2.2.2.2.2.2.2.2.1.1
  obtain ⟨cell, q1, q2, q3, q4⟩ := h3
  obtain ⟨hSl, hfc, kC, hkC, hkind⟩ := hK.1 ci _ ok.1
  obtain ⟨cf, kf, fi, f, hi, hsl⟩ := hSl i hk
  have hlay := hts _ (ok.2.1 _ (u_in_lay hk))
  unfold u_lay at hlay
  rw [if_neg (by rw [hfin]; decide)] at hlay
  have hst := (u_facts hfc hkC (u_lays hts ok.2.1 hk) hi).1
  have h6 := u_store hfc hkC hkind hlay hi (ok.2.2.1 i hk) (hn (g_f G)) (hfit (g_f G))
  refine va_WputK hc.1 hc.2.1 (f := f) hown (va_Nw.use rfl (hc.2.2.2.2.2.2.2.2.1.2.1 _ hlink)) hi hst (by rw [q2]; exact h6) q1 q3 (by rw [hsl]; exact k2_hasslot (q4 i hk)) rfl rfl d fun H' e1 e2 e3 => ?_
  rw [hsl] at e1 ⊢
  exact kk p e s m args below meth c hc H' _ ls hl (put_w ok hts hK hk hH h1 h2 q2 q3 q4 e1 e2 e3) (hS.put e2 e3 (g_A_f (Nat.lt_of_lt_of_le h1 hH.2.1)))
theorem wu_same {f : Nat → pE} {i : Nat} {e : pE} (h : f i = e) : wu f i e = f := by
  funext j
  unfold wu
  split
  · rename_i e1
    rw [e1, h]
  · rfl
/-- what is put there stands there already -/
theorem P_putS {ci N i index r : Nat} {C : String} {T : u_T} {ty : Nat → FieldType} {fs : List Value} {v : Value} (d : decode M.2.1 pc = .ok (.putfield index, 3)) (ok : COK ci C T N ty) (hk : i < N) (hfin : (T i).2.2.2 = false) (hlink : Cond.fieldLink M.1.cls index (T i).1 (T i).2.1 (T i).2.2.1 ∈ gtbl) (hw : w.2 r = .inr (ci, fs)) (hn : ∀ f, narrow (ty i) (tv f v) = tv f v) (hfit : ∀ f, fits (ty i) (tv f v) = true) (hs : fs.set i v = fs)
    (kk : PW G M R QF k n (pc + 3, lv, st, w)) : PW G M R QF k n (pc, lv, v :: .ref r :: st, w) :=
  P_put d ok hk hfin hlink hw hn hfit (by rw [hs, wu_same hw]; exact kk)
theorem P_putNS {ci N i index r : Nat} {C host : String} {T : u_T} {ty : Nat → FieldType} {fs : List Value} {v : Value} (d : decode M.2.1 pc = .ok (.putfield index, 3)) (ok : COK ci C T N ty) (hk : i < N) (hfin : (T i).2.2.2 = false) (hlink : Cond.fieldLinkNest M.1.cls index (T i).1 (T i).2.1 (T i).2.2.1 host ∈ ntbl) (hw : w.2 r = .inr (ci, fs)) (hn : ∀ f, narrow (ty i) (tv f v) = tv f v) (hfit : ∀ f, fits (ty i) (tv f v) = true) (hs : fs.set i v = fs)
    (kk : PW G M R QF k n (pc + 3, lv, st, w)) : PW G M R QF k n (pc, lv, v :: .ref r :: st, w) :=
  P_putN d ok hk hfin hlink hw hn hfit (by rw [hs, wu_same hw]; exact kk)
/-- a final field, in a constructor -/
theorem P_putF {ci N i index r : Nat} {C : String} {T : u_T} {ty : Nat → FieldType} {fs : List Value} {v : Value} (d : decode M.2.1 pc = .ok (.putfield index, 3)) (ok : COK ci C T N ty) (hk : i < N) (hfin : (T i).2.2.2 = true) (hlink : Cond.fieldLink M.1.cls index (T i).1 (T i).2.1 (T i).2.2.1 ∈ gtbl) (hinit : M.1.name = "<init>") (hdecl : (T i).1 = M.1.cls) (hw : w.2 r = .inr (ci, fs)) (hn : ∀ f, narrow (ty i) (tv f v) = tv f v) (hfit : ∀ f, fits (ty i) (tv f v) = true)
    (kk : PW G M R QF k n (pc + 3, lv, st, (w.1, wu w.2 r (.inr (ci, fs.set i v))))) : PW G M R QF k n (pc, lv, v :: .ref r :: st, w) := by
  intro p e s m args below meth c hc H locs ls hl hH hS
  obtain ⟨h1, h2, h3⟩ := pe_obj hc.2.2.2.2.2.2.2.2.2.1 hH ok.1 hw
  have hts := hc.2.2.2.2.2.2.2.1
  have hown := hc.2.2.2.2.2.2.1
  have hK := hc.2.2.2.2.2.2.2.2.1.1
  obtain ⟨cell, q1, q2, q3, q4⟩ := h3
  obtain ⟨hSl, hfc, kC, hkC, hkind⟩ := hK.1 ci _ ok.1
  obtain ⟨cf, kf, fi, f, hi, hsl⟩ := hSl i hk
  have hlay := hts _ (ok.2.1 _ (u_in_lay hk))
  unfold u_lay at hlay
  rw [if_pos hfin] at hlay
  have hst := (u_facts hfc hkC (u_lays hts ok.2.1 hk) hi).1
  have hcf : m.cls = cf := by
    obtain ⟨_, _, c', _, _, _, -, -, hf', -, -, -, hown2, -⟩ := Cond.laysFinal_spec hlay
    have e1 : c' = cf := by have := hi.symm.trans hf'; simp at this; exact this.1.symm
    rw [hdecl] at hown2
    rw [← e1]; exact Option.some.inj (hown.symm.trans hown2)
  have h6 := u_fits hfc hkC hkind (Or.inr hlay) hi (ok.2.2.1 i hk) (hn (g_f G)) (hfit (g_f G))
  refine W.putFinK hc.1 hc.2.1 hown (hts _ hlink) hi hst hcf (hc.2.2.2.2.2.1.trans hinit) (by rw [q2]; exact h6) q1 q3 (by rw [hsl]; exact k2_hasslot (q4 i hk)) rfl rfl d fun H' e1 e2 e3 => ?_
  rw [hsl] at e1 ⊢
  exact kk p e s m args below meth c hc H' _ ls hl (put_w ok hts hK hk hH h1 h2 q2 q3 q4 e1 e2 e3) (hS.put e2 e3 (g_A_f (Nat.lt_of_lt_of_le h1 hH.2.1)))
/-! arrays -/
theorem P_iald {i : Int32} {j r a : Nat} {f : Nat → Int32} (d : decode M.2.1 pc = .ok (.iaload, 1)) (hw : w.2 r = .inl (0, a, .inl f)) (hi : ix i j) (hj : j < a) (kk : PW G M R QF k n (pc + 1, lv, .int (f j) :: st, w)) : PW G M R QF k n (pc, lv, .int i :: .ref r :: st, w) := by
  intro p e s m args below meth c hc H locs ls hl hH hS
  obtain ⟨-, cell, c1, c2, c3, c4, c5, c6⟩ := pe_arr hc.2.2.2.2.2.2.2.2.1.1 hc.2.2.2.2.2.2.2.2.2.1 hS hH hw
  exact W.iald (v := .int (f j)) hc.1 hc.2.1 c1 c2 c3 (ix_in hi hj c4) (by rw [hi.1]; exact c6 j hj) rfl rfl d (kk p e s m args below meth c hc H locs ls hl hH hS)
theorem P_lald {i : Int32} {j r a : Nat} {f : Nat → Int64} (d : decode M.2.1 pc = .ok (.laload, 1)) (hw : w.2 r = .inl (1, a, .inr (.inl f))) (hi : ix i j) (hj : j < a) (kk : PW G M R QF k n (pc + 1, lv, .long (f j) :: st, w)) : PW G M R QF k n (pc, lv, .int i :: .ref r :: st, w) := by
  intro p e s m args below meth c hc H locs ls hl hH hS
  obtain ⟨-, cell, c1, c2, c3, c4, c5, c6⟩ := pe_arr hc.2.2.2.2.2.2.2.2.1.1 hc.2.2.2.2.2.2.2.2.2.1 hS hH hw
  exact W.lald (v := .long (f j)) hc.1 hc.2.1 c1 c2 c3 (ix_in hi hj c4) (by rw [hi.1]; exact c6 j hj) rfl rfl d (kk p e s m args below meth c hc H locs ls hl hH hS)
theorem P_aald {i : Int32} {j r a t q : Nat} {f : Nat → Option Nat} (d : decode M.2.1 pc = .ok (.aaload, 1)) (hw : w.2 r = .inl (t, a, .inr (.inr (.inr (.inr f))))) (ht : (aty t).isReference = true) (hi : ix i j) (hj : j < a) (hq : f j = some q) (kk : PW G M R QF k n (pc + 1, lv, .ref q :: st, w)) : PW G M R QF k n (pc, lv, .int i :: .ref r :: st, w) := by
  intro p e s m args below meth c hc H locs ls hl hH hS
  obtain ⟨-, cell, c1, c2, c3, c4, c5, c6⟩ := pe_arr hc.2.2.2.2.2.2.2.2.1.1 hc.2.2.2.2.2.2.2.2.2.1 hS hH hw
  have c7 := c6 j hj
  have c8 : pv (a, .inr (.inr (.inr (.inr f)))) j = .ref q := by show va_rf (f j) = _; rw [hq]; rfl
  rw [c8] at c7
  exact W.aald (v := .ref (g_f G q)) hc.1 hc.2.1 c1 c2 ht c3 (ix_in hi hj c4) (by rw [hi.1]; exact c7) rfl rfl d (kk p e s m args below meth c hc H locs ls hl hH hS)
theorem P_alen {r t : Nat} {a : vp_A} {v : Int32} (d : decode M.2.1 pc = .ok (.arraylength, 1)) (hw : w.2 r = .inl (t, a)) (hv : Int32.ofNat a.1 = v) (kk : PW G M R QF k n (pc + 1, lv, .int v :: st, w)) : PW G M R QF k n (pc, lv, .ref r :: st, w) := by
  intro p e s m args below meth c hc H locs ls hl hH hS
  obtain ⟨-, cell, c1, c2, c3, c4, c5, c6⟩ := pe_arr hc.2.2.2.2.2.2.2.2.1.1 hc.2.2.2.2.2.2.2.2.2.1 hS hH hw
  exact W.alen (n := v) hc.1 hc.2.1 c1 c2 (c5.trans hv) rfl rfl d (kk p e s m args below meth c hc H locs ls hl hH hS)
/-- an own array's cell -/
theorem own_arr {G : pG} {w : pW} {H : Heap} {r t : Nat} {a : vp_A} (hH : HW G w H) (hw : w.2 r = .inl (t, a)) (hr : r < 1000000) : r < w.1 ∧ t < 5 ∧ H[g_f G r]? = some (arrV (g_c G t) a.1 (fun j => tv (g_f G) (pv a j))) := by
  by_cases h : r < w.1
  · have h6 := hH.2.2.1 r h
    rw [hw] at h6
    exact ⟨h, h6.1, by rw [← ta_cell]; exact h6.2⟩
  · rw [hH.2.2.2.1 r (Nat.not_lt.mp h) hr] at hw
    cases hw
theorem arr_w {G : pG} {w : pW} {H H1 : Heap} {r t j : Nat} {a a' : vp_A} {v : Value} (hH : HW G w H) (hr : r < w.1) (ht : t < 5) (e : H1[g_f G r]? = some ((arrV (g_c G t) a.1 (fun j => tv (g_f G) (pv a j))).setSlot j (tv (g_f G) v))) (z : H1.size = H.size) (oq : ∀ q : Nat, q ≠ g_f G r → H1[q]? = H[q]?) (h1 : a'.1 = a.1) (h2 : ∀ q, pv a' q = if q = j then v else pv a q) : HW G (w.1, wu w.2 r (.inl (t, a'))) H1 := by
  refine hH.set hr ⟨ht, ?_⟩ z oq
  rw [e, arrV_store, ta_cell, h1]
  refine congrArg some (congrArg (arrV _ _) (funext fun q => ?_))
  show updV _ j _ q = tv (g_f G) (pv a' q)
  rw [h2]
  unfold updV
  split <;> rfl
theorem P_iast {i x : Int32} {j r a : Nat} {f : Nat → Int32} (d : decode M.2.1 pc = .ok (.iastore, 1)) (hw : w.2 r = .inl (0, a, .inl f)) (hr : r < 1000000) (hi : ix i j) (hj : j < a) (kk : PW G M R QF k n (pc + 1, lv, st, (w.1, wu w.2 r (.inl (0, a, .inl (upd f j x)))))) : PW G M R QF k n (pc, lv, .int x :: .int i :: .ref r :: st, w) := by
  intro p e s m args below meth c hc H locs ls hl hH hS
  obtain ⟨h1, h2, h3⟩ := own_arr hH hw hr
  refine W.iast hc.1 hc.2.1 h3 ((hc.2.2.2.2.2.2.2.2.1.1.2 0 _ (tysG_at G h2)).1 _ _) (fun q => by cases q) (by rw [arrV_size]; exact ix_in hi hj (Nat.le_refl _)) rfl rfl d fun H1 e1 z oq => ?_
  rw [hi.1] at e1
  exact kk p e s m args below meth c hc H1 _ ls hl (arr_w (v := .int x) hH h1 h2 e1 z oq rfl (fun q => by show Value.int (upd f j x q) = _; unfold upd; split <;> rfl)) (hS.put z oq (g_A_f hr))
theorem P_last {i : Int32} {x : Int64} {j r a : Nat} {f : Nat → Int64} (d : decode M.2.1 pc = .ok (.lastore, 1)) (hw : w.2 r = .inl (1, a, .inr (.inl f))) (hr : r < 1000000) (hi : ix i j) (hj : j < a) (kk : PW G M R QF k n (pc + 1, lv, st, (w.1, wu w.2 r (.inl (1, a, .inr (.inl (vp_updL f j x))))))) : PW G M R QF k n (pc, lv, .long x :: .int i :: .ref r :: st, w) := by
  intro p e s m args below meth c hc H locs ls hl hH hS
  obtain ⟨h1, h2, h3⟩ := own_arr hH hw hr
  refine W.last hc.1 hc.2.1 h3 ((hc.2.2.2.2.2.2.2.2.1.1.2 1 _ (tysG_at G h2)).1 _ _) (fun q => by cases q) (by rw [arrV_size]; exact ix_in hi hj (Nat.le_refl _)) rfl rfl d fun H1 e1 z oq => ?_
  rw [hi.1] at e1
  exact kk p e s m args below meth c hc H1 _ ls hl (arr_w (v := .long x) hH h1 h2 e1 z oq rfl (fun q => by show Value.long (vp_updL f j x q) = _; unfold vp_updL; split <;> rfl)) (hS.put z oq (g_A_f hr))
/-- a Quad into an array of them -/
theorem P_aast {i : Int32} {j r a v : Nat} {f : Nat → Option Nat} {vs : List Value} (d : decode M.2.1 pc = .ok (.aastore, 1)) (hw : w.2 r = .inl (4, a, .inr (.inr (.inr (.inr f))))) (hr : r < 1000000) (hv : w.2 v = .inr (0, vs)) (hi : ix i j) (hj : j < a) (kk : PW G M R QF k n (pc + 1, lv, st, (w.1, wu w.2 r (.inl (4, a, .inr (.inr (.inr (.inr (va_up f j (some v)))))))))) : PW G M R QF k n (pc, lv, .ref v :: .int i :: .ref r :: st, w) := by
  intro p e s m args below meth c hc H locs ls hl hH hS
  obtain ⟨h1, h2, h3⟩ := own_arr hH hw hr
  have hK := hc.2.2.2.2.2.2.2.2.1.1
  obtain ⟨g0, -, cellV, g1, g2, g3, -⟩ := pe_obj (q := (R_Quad, F_Quad, 1)) hc.2.2.2.2.2.2.2.2.2.1 hH rfl hv
  have hcls := (hK.1 0 (R_Quad, F_Quad, 1) rfl).2
  obtain ⟨kA, comp, k1, k2, k3, -⟩ := (hK.2 4 _ (tysG_at G h2)).2
  have hcomp : comp = (g_D G).1 0 := Option.some.inj (k3.symm.trans hcls.1)
  subst hcomp
  obtain ⟨kC, hkC, -⟩ := hcls.2
  refine W.aast hc.1 hc.2.1 h3 (fun q h => by cases h) (fun h => by cases h) k1 k2 rfl hkC ⟨hi.2, by rw [arrV_size, hi.1]; exact hj⟩ g1 (fun q h => by rw [g3] at h; cases h) (by rw [g2]; exact hkC) (by rw [g2]; exact va_assign hcls) rfl rfl d fun H1 e1 z oq => ?_
  rw [hi.1] at e1
  exact kk p e s m args below meth c hc H1 _ ls hl (arr_w (v := .ref v) hH h1 h2 e1 z oq rfl (fun q => by show va_rf (va_up f j (some v) q) = _; unfold va_up; split <;> rfl)) (hS.put z oq (g_A_f hr))
/-! new things -/
theorem va_S.push {A : Nat → Prop} {H0 H H1 : Heap} {locs : List Loc} (h : va_S A H0 H locs) (z : H1.size = H.size + 1) (oq : ∀ q : Nat, q < H.size → H1[q]? = H[q]?) : va_S A H0 H1 locs :=
  ⟨Nat.le_trans h.1 (by omega), fun q h1 h2 => (oq q (Nat.lt_of_lt_of_le h1 h.1)).trans (h.2.1 q h1 h2), h.2.2⟩
theorem P_new {ci N index : Nat} {C : String} {T : u_T} {ty : Nat → FieldType} {fs : List Value} (d : decode M.2.1 pc = .ok (.new index, 3)) (ok : COK ci C T N ty) (hcl : Cond.classLink M.1.cls index C ∈ gtbl) (hin : Cond.instantiable C N ∈ gtbl) (hini : Cond.initialized C ∈ gtbl) (hlen : fs.length = N) (hfs : ∀ j, j < N → defaultValue (ty j) = vp_V fs j) (htv : ∀ f, fs.map (tv f) = fs) (hcells : k + 1 ≤ R.cells) (hslots : n + N ≤ R.slots) (hwx : w.1 < 1000000)
    (kk : PW G M R QF (k + 1) (n + N) (pc + 3, lv, .ref w.1 :: st, (w.1 + 1, wu w.2 w.1 (.inr (ci, fs))))) : PW G M R QF k n (pc, lv, st, w) := by
  intro p e s m args below meth c hc H locs ls hl hH hS
  have hts := hc.2.2.2.2.2.2.2.1
  have hown := hc.2.2.2.2.2.2.1
  have hK := hc.2.2.2.2.2.2.2.2.1.1
  have hKn := hK.1 ci _ ok.1
  refine W.newcK hc.1 hc.2.1 hown (hts _ hcl) (hts _ hin) (hts _ hini) rfl d hcells hslots hKn.2.1 rfl fun H1 kC hkC e1 z1 o1 => ?_
  have e2 : g_f G w.1 = H.size := by rw [g_f_own hwx]; exact hH.1.symm
  have := kk p e s m args below meth c hc H1 locs ls hl (hH.push hwx (Or.inr ⟨_, ok.1, hlen, by rw [e2, htv]; exact (u_born ty hts ok.2.1 hKn hkC e1 ok.2.2.1).to hfs⟩) z1 o1) (hS.push z1 o1)
  rw [← e2]
  exact this
theorem P_newarr {atype : ArrayType} {t N : Nat} {z : Int32} {a0 : vp_A} (d : decode M.2.1 pc = .ok (.newarray atype, 2)) (ht : newarray.typeOf atype = aty t) (ht5 : t < 5) (hw : Cond.arrayClass (newarray.typeOf atype) ∈ gtbl) (hz : ix z N) (hb : N * componentBytes (newarray.typeOf atype) ≤ 536870912) (ha : a0.1 = N ∧ ∀ f j, tv f (pv a0 j) = defaultValue (newarray.typeOf atype)) (hcells : k + 1 ≤ R.cells) (hslots : n + N ≤ R.slots) (hwx : w.1 < 1000000)
    (kk : PW G M R QF (k + 1) (n + N) (pc + 2, lv, .ref w.1 :: st, (w.1 + 1, wu w.2 w.1 (.inl (t, a0))))) : PW G M R QF k n (pc, lv, .int z :: st, w) := by
  intro p e s m args below meth c hc H locs ls hl hH hS
  have hts := hc.2.2.2.2.2.2.2.1
  have hK := hc.2.2.2.2.2.2.2.2.1.1
  refine va_newaK hc.1 hc.2.1 (hts _ hw) rfl d rfl hz.2 hz.1 hb hcells hslots rfl fun H1 cA e1 z1 o1 hAr hNm => ?_
  have e2 : g_f G w.1 = H.size := by rw [g_f_own hwx]; exact hH.1.symm
  have hA : cA = g_c G t := by
    have h9 := (hK.2 t _ (tysG_at G ht5)).2
    rw [← ht] at h9
    have h9 : s.vm.findClass ("[" ++ (newarray.typeOf atype).toString) = some (g_c G t) := by cases atype <;> exact h9
    exact Option.some.inj (hNm.symm.trans h9)
  have := kk p e s m args below meth c hc H1 locs ls hl (hH.push hwx ⟨ht5, by rw [e2, e1, ta_cell, ha.1, hA]; exact congrArg some (congrArg (arrV _ _) (funext fun j => (ha.2 _ j).symm))⟩ z1 o1) (hS.push z1 o1)
  rw [← e2]
  exact this
theorem P_anewQ {index N : Nat} {z : Int32} (d : decode M.2.1 pc = .ok (.anewarray index, 3)) (hcl : Cond.classLink M.1.cls index "CornerMaps$Quad" ∈ gtbl) (hz : ix z N) (hb : N * 4 ≤ 536870912) (hcells : k + 1 ≤ R.cells) (hslots : n + N ≤ R.slots) (hwx : w.1 < 1000000)
    (kk : PW G M R QF (k + 1) (n + N) (pc + 3, lv, .ref w.1 :: st, (w.1 + 1, wu w.2 w.1 (.inl (4, N, .inr (.inr (.inr (.inr (fun _ => none))))))))) : PW G M R QF k n (pc, lv, .int z :: st, w) := by
  intro p e s m args below meth c hc H locs ls hl hH hS
  have hts := hc.2.2.2.2.2.2.2.1
  have hown := hc.2.2.2.2.2.2.1
  have hK := hc.2.2.2.2.2.2.2.2.1.1
  obtain ⟨hz1, hz2⟩ := hz
  subst hz1
  refine W.anew hc.1 hc.2.1 hown (hts _ hcl) (va_AO.use hc.2.2.2.2.2.2.2.2.1.2.2.1) rfl d rfl hz2 hb hcells hslots fun cA kA comp f1 f2 f3 f4 => ?_
  generalize hH1 : H.push ({ cls := cA, slots := Array.replicate z.toNatClampNeg .null, vm := .none } : Cell) = H1
  have z1 : H1.size = H.size + 1 := by rw [← hH1, Array.size_push]
  have e1 : H1[H.size]? = some (arrV cA z.toNatClampNeg (fun _ => .null)) := by rw [← hH1, Array.getElem?_push_size, ← arrV_new]
  have o1 : ∀ q : Nat, q < H.size → H1[q]? = H[q]? := fun q hq => by rw [← hH1, Array.getElem?_push, if_neg (Nat.ne_of_lt hq)]
  have e2 : g_f G w.1 = H.size := by rw [g_f_own hwx]; exact hH.1.symm
  obtain ⟨kB, comp2, k1, k2, k3, k4⟩ := (hK.2 4 _ (tysG_at G (by decide))).2
  have hA : cA = g_c G 4 := Option.some.inj (f1.symm.trans k4)
  have := kk p e s m args below meth c hc H1 locs ls hl (hH.push hwx ⟨(by decide : 4 < 5), by rw [e2, e1, ta_cell, hA]; rfl⟩ z1 o1) (hS.push z1 o1)
  rw [← e2]
  exact this
end PWH
end
section
/-! calls, contracts, ends -/
def rmD (d mc ms : Nat) : Room := { frames := d, cells := mc, slots := ms, locals := 60 * d }
def QC (G : pG) (Q : Option Value → pW → Prop) : Array Value → State → Outcome → State → Prop := fun _ s o t => (∃ (r : Option Value) (w' : pW), o = .returned (r.map (tv (g_f G))) ∧ Q r w' ∧ HW G w' t.heap ∧ KX G t) ∧ va_F (g_A G) s t
def PC0 (G : pG) (as : List Value) (w : pW) : Array Value → State → Prop := fun v U => v = (as.map (tv (g_f G))).toArray ∧ HW G w U.heap ∧ KX G U ∧ XX G U U.heap
/-- from the world w, called with as, the method returns r, and the world is w' behind it, with Q r w'; d frames, at most mc new cells of ms slots -/
def PM (G : pG) (M : pM) (d mc ms : Nat) (as : List Value) (w : pW) (Q : Option Value → pW → Prop) : Prop := Met (g_l G) M.1 (wsM M) (rmD d mc ms) (PC0 G as w) (QC G Q) mc ms (g_A G)
def QM (G : pG) (Q : Option Value → pW → Prop) (mc ms : Nat) : List Frame → Array Value → State → State → Prop := fun below args s => MQ below (QC G Q) args s mc ms (g_A G)
theorem PC0.blind {G : pG} {as : List Value} {w : pW} : FrameBlind (PC0 G as w) := fun a U g mk h =>
  ⟨h.1, h.2.1, KX.moved (s := U) (U := U.calling g mk a) (State.WarmedH.refl U) h.2.2.1, XX.go (s := U) (U := U.calling g mk a) (Vm.Alike.refl U.vm) (fun _ _ _ => rfl) h.2.2.2⟩
theorem sl_tv (f : Nat → Nat) : ∀ as : List Value, (lg_sl (as.map (tv f))).length = (lg_sl as).length
  | [] => rfl
  | v :: as => by
    have ih := sl_tv f as
    unfold lg_sl at ih ⊢
    simp only [List.map_cons, List.flatMap_cons, List.length_append, ih, tv_cat]
    split <;> rfl
theorem args_tv (G : pG) : ∀ (i : Nat) (as : List Value), lv_args i (as.map (tv (g_f G))) = lt G (lv_args i as)
  | _, [] => rfl
  | i, v :: as => by
    simp only [List.map_cons, lv_args, tv_cat, args_tv G]
    rfl
theorem PM_of {G : pG} {M : pM} {d mc ms : Nat} {as : List Value} {w : pW} {Q : Option Value → pW → Prop} (hy : plainName M.1.cls = true) (hlen : (lg_sl as).length ≤ M.2.2.1) (kk : PW G M (rmD d mc ms) (QM G Q mc ms) 0 0 (0, lv_args 0 as, [], w)) : PM G M d mc ms as w Q := by
  refine Met.ofW (cc := M.2.1) (maxL := M.2.2.1) (ret := M.2.2.2) hy rfl ?_
  intro p e s m args below meth c s₁ B hml hv
  obtain ⟨rfl, hH, hK, hX⟩ := hv
  have hts := atoms_spec (ws := wsM M) B.pre
  have hl := lv_entry (as.map (tv (g_f G))) (n := M.2.2.1) (by rw [sl_tv]; exact hlen)
  rw [lg_entry_eq]
  rw [args_tv] at hl
  exact kk p e s m _ below meth c ⟨B.exec, B.bytes, hml, B.returns, B.notSynchronized, (name_of_methodNamed B.named B.method).1, findClass_of_methodNamed B.named, fun w hw => hts w (List.mem_cons_of_mem _ hw), hK, hX, by rw [hH.1]; exact Nat.le_add_right _ _⟩ s.heap [] _ hl hH va_S.rf
theorem PM.imp {G : pG} {M : pM} {d mc ms : Nat} {as : List Value} {w : pW} {Q Q' : Option Value → pW → Prop} (h : PM G M d mc ms as w Q) (hq : ∀ r w', Q r w' → Q' r w') : PM G M d mc ms as w Q' := by
  intro p e ha hc hk s m args below hf happ hP hx
  obtain ⟨k, o, h1, h2, h3, ⟨⟨r, w', e1, e2, e3⟩, e4⟩, h5⟩ := h p e ha hc hk s m args below hf happ hP hx
  exact ⟨k, o, h1, h2, h3, ⟨⟨r, w', e1, hq r w' e2, e3⟩, e4⟩, h5⟩
/-- what every call of a method wants of the tables -/
def CalOK (M : pM) (na : Nat) : Prop := Cond.code M.1 M.2.1 M.2.2.1 M.2.2.2 ∈ gtbl ∧ Cond.initialized M.1.cls ∈ gtbl ∧ M.1.cls ≠ "java/lang/invoke/MethodHandle" ∧ M.1.cls ≠ "java/lang/invoke/VarHandle" ∧ (parseMethodDescriptor M.1.desc).map (fun d => d.parameters.length) = some na
section PWC
variable {G : pG} {M M2 : pM} {R : Room} {QF : List Frame → Array Value → State → State → Prop} {k n pc d2 mc2 ms2 na : Nat} {lv : List (Nat × Value)} {st as : List Value} {w : pW} {Q2 : Option Value → pW → Prop}
theorem run_fin {p : Program} {e : Env} {s : State} {m : MethodId} {args a : Array Value} {below : List Frame} {meth : Method} {c : Code} {H : Heap} {locs : List Loc} {ls : Array Slot} {rest st0 : List Value} {QQ : State → Prop}
    (hr : va_Run p (g_l G) e R s m args below meth c H locs k n mc2 ms2 (F0 m pc ls st0) rest (QC G Q2 a) (g_A G)) (hS : va_S (g_A G) s.heap H locs)
    (kk : ∀ (r : Option Value) (w' : pW) (H1 : Heap) (locs1 : List Loc), Q2 r w' → HW G w' H1 → va_S (g_A G) s.heap H1 locs1 → W p (g_l G) e R s m args below meth c H1 locs1 (k + mc2) (n + ms2) QQ (F0 m (pc + 3) ls ((r.map (tv (g_f G))).toList ++ rest))) : W p (g_l G) e R s m args below meth c H locs k n QQ (F0 m pc ls st0) := by
  intro T hT X
  obtain ⟨v, st₀, t, T', L, h0, X', hL, e1, e2, ⟨⟨r, w', hv, hq, hH, hK⟩, hz, hk⟩, st⟩ := hr T hT X
  cases hv
  rw [h0] at hz hk
  obtain ⟨t2, a1, b1⟩ := kk r w' T'.heap (locs ++ L) hq (by rw [e1]; exact hH) ⟨Nat.le_trans hS.1 (by rw [e1]; exact hz), fun q h1 h2 => by rw [e1, hk q (Nat.lt_of_lt_of_le h1 hS.1) h2]; exact hS.2.1 q h1 h2, fun q hq => by
      rcases List.mem_append.mp hq with h | h
      · exact hS.2.2 q h
      · exact hL q h⟩ T' rfl X'
  exact ⟨t2, st t2 a1, b1⟩
theorem pre_c {p : Program} {s : State} {m : MethodId} {args : Array Value} {meth : Method} {c : Code} {H : Heap} {locs : List Loc} (hc : Ctx G M p s m args meth c) (hH : HW G w H) (hS : va_S (g_A G) s.heap H locs) : ∀ U : State, U.heap = H → s.WarmedH U.vm → PC0 G as w (as.map (tv (g_f G))).toArray U := fun U hU hW =>
  ⟨rfl, by rw [hU]; exact hH, hc.2.2.2.2.2.2.2.2.1.moved hW, by rw [hU]; exact hc.2.2.2.2.2.2.2.2.2.1.go hW.alike hS.2.1⟩
theorem sum_tv (f : Nat → Nat) (st : List Value) : ((st.map (tv f)).map fun v => v.category) = st.map Value.category := by
  rw [List.map_map]
  exact List.map_congr_left fun v _ => tv_cat f v
theorem room8 {m : MethodId} {pc : Nat} {ls : Array Slot} {s0 : List Value} {f : Nat → Nat} (h : (st.map Value.category).sum ≤ 8) : 2 * (F0 m pc ls s0).monitorRoom + ((st.map (tv f)).map fun v => v.category).sum ≤ 8 := by
  rw [sum_tv]
  show 2 * 0 + _ ≤ 8
  omega
theorem wsM_in (hco : Cond.code M2.1 M2.2.1 M2.2.2.1 M2.2.2.2 ∈ gtbl) : GoodIn gtbl (wsM M2) := fun w h => (List.mem_cons.mp h).elim (fun e => by rw [e]; exact gtbl_self _ hco) (fun h => gtbl_self _ h)
theorem P_callS {index : Nat} (d : decode M.2.1 pc = .ok (.invokestatic index, 3)) (co : CalOK M2 na) (hl : Cond.methodLink M.1.cls index M2.1 ∈ gtbl) (hst : Cond.static M2.1 ∈ gtbl) (hM : PM G M2 d2 mc2 ms2 as w Q2) (hna : as.length = na) (hR : d2 + 1 ≤ R.frames ∧ 8 + (M2.2.2.1 + 11) + 60 * d2 ≤ R.locals) (hf : k + mc2 ≤ R.cells ∧ n + ms2 ≤ R.slots) (hcat : (st.map Value.category).sum ≤ 8)
    (kk : ∀ (r : Option Value) (w' : pW), Q2 r w' → PW G M R QF (k + mc2) (n + ms2) (pc + 3, lv, r.toList ++ st, w')) (st0 : List Value) (h0 : st0 = as.reverse ++ st) : PW G M R QF k n (pc, lv, st0, w) := by
  intro p e s m args below meth c hc H locs ls hl0 hH hS
  have hts := hc.2.2.2.2.2.2.2.1
  refine run_fin (rest := st.map (tv (g_f G))) (va_runS (As := as.map (tv (g_f G))) (n := na) ⟨hc.1, hc.2.1, hc.2.2.1, hc.2.2.2.2.2.2.1, hts⟩ hM ⟨callB_of na hts (wsM_in co.1) rfl rfl rfl (hts _ co.2.1) (hts _ hl) co.2.2 hR, hts _ hst⟩ ⟨PC0.blind, pre_c hc hH hS⟩ rfl (by simp [hna]) hl0.1 (by subst h0; simp [F0]) (room8 hcat) d hf) hS (fun r w' H1 locs1 hq hH1 hS1 => ?_)
  have := kk r w' hq p e s m args below meth c hc H1 locs1 ls hl0 hH1 hS1
  cases r <;> exact this
/-- the outer cells are as they were -/
theorem PW.ext (kk : (∀ j, w.2 (1000000 + j) = g_w G j) → PW G M R QF k n (pc, lv, st, w)) : PW G M R QF k n (pc, lv, st, w) :=
  fun p e s m args below meth c hc H locs ls hl hH hS => kk hH.2.2.2.2 p e s m args below meth c hc H locs ls hl hH hS
theorem P_callV {ci N index b : Nat} {T : u_T} {ty : Nat → FieldType} {fs : List Value} (d : decode M.2.1 pc = .ok (.invokevirtual index, 3)) (co : CalOK M2 na) (ok : COK ci M2.1.cls T N ty) (hw : w.2 b = .inr (ci, fs)) (hl : Cond.methodLink M.1.cls index M2.1 ∈ gtbl) (hin : Cond.instanceMethod M2.1 ∈ gtbl) (hse : Cond.selects M2.1.cls M2.1 M2.1 ∈ gtbl) (hM : PM G M2 d2 mc2 ms2 (.ref b :: as) w Q2) (hna : as.length = na) (hR : d2 + 1 ≤ R.frames ∧ 8 + (M2.2.2.1 + 11) + 60 * d2 ≤ R.locals) (hf : k + mc2 ≤ R.cells ∧ n + ms2 ≤ R.slots) (hcat : (st.map Value.category).sum ≤ 8)
    (kk : ∀ (r : Option Value) (w' : pW), Q2 r w' → PW G M R QF (k + mc2) (n + ms2) (pc + 3, lv, r.toList ++ st, w')) (st0 : List Value) (h0 : st0 = as.reverse ++ .ref b :: st) : PW G M R QF k n (pc, lv, st0, w) := by
  intro p e s m args below meth c hc H locs ls hl0 hH hS
  have hts := hc.2.2.2.2.2.2.2.1
  obtain ⟨g0, -, cellV, g1, g2, g3, -⟩ := pe_obj hc.2.2.2.2.2.2.2.2.2.1 hH ok.1 hw
  have hcls := (hc.2.2.2.2.2.2.2.2.1.1.1 ci _ ok.1).2
  refine run_fin (rest := st.map (tv (g_f G))) (va_runV (C := M2.1.cls) (b := g_f G b) (As := as.map (tv (g_f G))) (n := na) ⟨hc.1, hc.2.1, hc.2.2.1, hc.2.2.2.2.2.2.1, hts⟩ hM ⟨callB_of na hts (wsM_in co.1) rfl rfl rfl (hts _ co.2.1) (hts _ hl) co.2.2 hR, hts _ hin, hts _ hse⟩ ⟨PC0.blind, ⟨cellV, g1, by rw [g3]; rfl, by rw [g2]; exact hcls.1⟩, pre_c (as := .ref b :: as) hc hH hS⟩ rfl (by simp [hna]) hl0.1 (by subst h0; simp [F0, tv]) (room8 hcat) d hf) hS (fun r w' H1 locs1 hq hH1 hS1 => ?_)
  have := kk r w' hq p e s m args below meth c hc H1 locs1 ls hl0 hH1 hS1
  cases r <;> exact this
/-- a constructor, linked in the class itself -/
theorem P_callI {index b : Nat} (d : decode M.2.1 pc = .ok (.invokespecial index, 3)) (co : CalOK M2 na) (hret : M2.2.2.2 = none) (hnm : M2.1.name = "<init>") (hl : Cond.methodLink M.1.cls index M2.1 ∈ gtbl) (hin : Cond.instanceMethod M2.1 ∈ gtbl) (hM : PM G M2 d2 mc2 ms2 (.ref b :: as) w Q2) (hna : as.length = na) (hR : d2 + 1 ≤ R.frames ∧ 8 + (M2.2.2.1 + 11) + 60 * d2 ≤ R.locals) (hf : k + mc2 ≤ R.cells ∧ n + ms2 ≤ R.slots) (hcat : (st.map Value.category).sum ≤ 8)
    (kk : ∀ (r : Option Value) (w' : pW), Q2 r w' → PW G M R QF (k + mc2) (n + ms2) (pc + 3, lv, r.toList ++ st, w')) (st0 : List Value) (h0 : st0 = as.reverse ++ .ref b :: st) : PW G M R QF k n (pc, lv, st0, w) := by
  intro p e s m args below meth c hc H locs ls hl0 hH hS
  have hts := hc.2.2.2.2.2.2.2.1
  have cb : CallB R s args M.1.cls index M2.1 M2.2.1 M2.2.2.1 none (wsM M2) (rmD d2 mc2 ms2) mc2 ms2 na := by
    have h := callB_of (R := R) (rm := rmD d2 mc2 ms2) (own := M.1.cls) (index := index) na hts (wsM_in co.1) rfl rfl rfl (hts _ co.2.1) (hts _ hl) co.2.2 hR
    rw [hret] at h
    exact h
  refine run_fin (rest := st.map (tv (g_f G))) (va_runI (b := g_f G b) (As := as.map (tv (g_f G))) (n := na) ⟨hc.1, hc.2.1, hc.2.2.1, hc.2.2.2.2.2.2.1, hts⟩ hM ⟨cb, hnm, hts _ hin⟩ ⟨PC0.blind, pre_c (as := .ref b :: as) hc hH hS⟩ rfl (by simp [hna]) hl0.1 (by subst h0; simp [F0, tv]) (room8 hcat) d hf) hS (fun r w' H1 locs1 hq hH1 hS1 => ?_)
  have := kk r w' hq p e s m args below meth c hc H1 locs1 ls hl0 hH1 hS1
  cases r <;> exact this
/-- a private constructor of a nest mate -/
theorem P_callIN {index b : Nat} {host : String} (d : decode M.2.1 pc = .ok (.invokespecial index, 3)) (co : CalOK M2 na) (hret : M2.2.2.2 = none) (hnm : M2.1.name = "<init>") (hl : Cond.methodLinkNest M.1.cls index M2.1 host ∈ ntbl) (hin : Cond.instanceMethod M2.1 ∈ gtbl) (hM : PM G M2 d2 mc2 ms2 (.ref b :: as) w Q2) (hna : as.length = na) (hR : d2 + 1 ≤ R.frames ∧ 8 + (M2.2.2.1 + 11) + 60 * d2 ≤ R.locals) (hf : k + mc2 ≤ R.cells ∧ n + ms2 ≤ R.slots) (hcat : (st.map Value.category).sum ≤ 8)
    (kk : ∀ (r : Option Value) (w' : pW), Q2 r w' → PW G M R QF (k + mc2) (n + ms2) (pc + 3, lv, r.toList ++ st, w')) (st0 : List Value) (h0 : st0 = as.reverse ++ .ref b :: st) : PW G M R QF k n (pc, lv, st0, w) := by
  intro p e s m args below meth c hc H locs ls hl0 hH hS
  have hts := hc.2.2.2.2.2.2.2.1
  have cb : va_CN R s args M.1.cls index M2.1 host M2.2.1 M2.2.2.1 none (wsM M2) (rmD d2 mc2 ms2) mc2 ms2 na := by
    have h := va_cnB (R := R) (rm := rmD d2 mc2 ms2) (own := M.1.cls) (index := index) na hts (wsM_in co.1) rfl rfl rfl (hc.2.2.2.2.2.2.2.2.1.2.1 _ hl) (hts _ co.2.1) co.2.2 hR
    rw [hret] at h
    exact h
  refine run_fin (rest := st.map (tv (g_f G))) (va_runIN (b := g_f G b) (As := as.map (tv (g_f G))) (n := na) ⟨hc.1, hc.2.1, hc.2.2.1, hc.2.2.2.2.2.2.1, hts⟩ hM ⟨cb, hnm, hts _ hin⟩ ⟨PC0.blind, pre_c (as := .ref b :: as) hc hH hS⟩ rfl (by simp [hna]) hl0.1 (by subst h0; simp [F0, tv]) (room8 hcat) d hf) hS (fun r w' H1 locs1 hq hH1 hS1 => ?_)
  have := kk r w' hq p e s m args below meth c hc H1 locs1 ls hl0 hH1 hS1
  cases r <;> exact this
theorem P_objInit {index b : Nat} (d : decode M.2.1 pc = .ok (.invokespecial index, 3)) (hl : Cond.methodLink M.1.cls index Lib.objectInit ∈ gtbl) (hin : Cond.instanceMethod Lib.objectInit ∈ gtbl) (hco : Cond.code Lib.objectInit ⟨#[0xb1]⟩ 1 none ∈ gtbl) (hR : 1 ≤ R.frames ∧ 20 ≤ R.locals) (hcat : (st.map Value.category).sum ≤ 8)
    (kk : PW G M R QF k n (pc + 3, lv, st, w)) : PW G M R QF k n (pc, lv, .ref b :: st, w) := by
  intro p e s m args below meth c hc H locs ls hl0 hH hS
  have hts := hc.2.2.2.2.2.2.2.1
  have h8 := room8 (m := m) (pc := pc) (ls := ls) (s0 := []) (f := g_f G) hcat
  exact W.objInit hc.1 hc.2.1 hc.2.2.2.2.2.2.1 (hts _ hl) (hts _ hin) (hts _ hco) rfl (by rw [hc.2.2.1]; exact hl0.1) rfl d hR.1 (by show 2 * (F0 m pc ls []).monitorRoom + _ + 12 ≤ _; omega) (kk p e s m args below meth c hc H locs ls hl0 hH hS)
/-- a constant static -/
theorem P_gets {index : Nat} (q : String × String × String × Nat) (hq : q ∈ sts) (d : decode M.2.1 pc = .ok (.getstatic index, 3)) (hl : Cond.fieldLink M.1.cls index q.1 q.2.1 q.2.2.1 ∈ gtbl)
    (kk : PW G M R QF k n (pc + 3, lv, .ref (1000000 + q.2.2.2) :: st, w)) : PW G M R QF k n (pc, lv, st, w) := by
  intro p e s m args below meth c hc H locs ls hl0 hH hS
  have h1 := kk p e s m args below meth c hc H locs ls hl0 hH hS
  have hf : g_f G (1000000 + q.2.2.2) = g_x G q.2.2.2 := (g_f_ext (Nat.le_add_right _ _)).trans (congrArg (g_x G) (Nat.add_sub_cancel_left ..))
  refine va_gets hc.1 hc.2.1 (hc.2.2.2.2.2.2.2.2.2.1.2.2.1 q hq) hS hc.2.2.2.2.2.2.1 (hc.2.2.2.2.2.2.2.1 _ hl) (fun _ h => h) d ?_
  rw [← hf]
  exact h1
/-- a static that is no reference -/
theorem P_getv {index : Nat} (q : String × String × String × Value) (hq : q ∈ stv) (hv : ∀ f, tv f q.2.2.2 = q.2.2.2) (d : decode M.2.1 pc = .ok (.getstatic index, 3)) (hl : Cond.fieldLink M.1.cls index q.1 q.2.1 q.2.2.1 ∈ gtbl)
    (kk : PW G M R QF k n (pc + 3, lv, q.2.2.2 :: st, w)) : PW G M R QF k n (pc, lv, st, w) := by
  intro p e s m args below meth c hc H locs ls hl0 hH hS
  have h1 := kk p e s m args below meth c hc H locs ls hl0 hH hS
  refine va_gets hc.1 hc.2.1 (hc.2.2.2.2.2.2.2.2.2.1.2.1 q hq) hS hc.2.2.2.2.2.2.1 (hc.2.2.2.2.2.2.2.1 _ hl) (fun _ h => h) d ?_
  rw [← hv (g_f G)]
  exact h1
theorem P_getsN {index : Nat} {host : String} (q : String × String × String × Nat) (hq : q ∈ sts) (d : decode M.2.1 pc = .ok (.getstatic index, 3)) (hl : Cond.fieldLinkNest M.1.cls index q.1 q.2.1 q.2.2.1 host ∈ ntbl)
    (kk : PW G M R QF k n (pc + 3, lv, .ref (1000000 + q.2.2.2) :: st, w)) : PW G M R QF k n (pc, lv, st, w) := by
  intro p e s m args below meth c hc H locs ls hl0 hH hS
  have h1 := kk p e s m args below meth c hc H locs ls hl0 hH hS
  have hf : g_f G (1000000 + q.2.2.2) = g_x G q.2.2.2 := (g_f_ext (Nat.le_add_right _ _)).trans (congrArg (g_x G) (Nat.add_sub_cancel_left ..))
  refine va_getsN hc.1 hc.2.1 (hc.2.2.2.2.2.2.2.2.2.1.2.2.1 q hq) hS hc.2.2.2.2.2.2.1 (va_Nw.use rfl (hc.2.2.2.2.2.2.2.2.1.2.1 _ hl)) (fun _ h => h) d ?_
  rw [← hf]
  exact h1
end PWC
/-! ends -/
section PWE
variable {G : pG} {M : pM} {R : Room} {k n pc mc ms : Nat} {lv : List (Nat × Value)} {w : pW} {Q : Option Value → pW → Prop}
theorem end_q {p : Program} {s : State} {m : MethodId} {args : Array Value} {meth : Method} {c : Code} {H : Heap} {locs : List Loc} (hc : Ctx G M p s m args meth c) (hH : HW G w H) (hS : va_S (g_A G) s.heap H locs) {r : Option Value} {v : Option Value} (hv : r.map (tv (g_f G)) = v) (hq : Q r w) : ∀ t : State, t.heap = H → s.WarmedH t.vm → QC G Q args s (.returned v) t := fun t ht hW =>
  ⟨⟨r, w, by rw [hv], hq, by rw [ht]; exact hH, hc.2.2.2.2.2.2.2.2.1.moved hW⟩, hS.F ht⟩
theorem P_iret {v : Int32} (d : decode M.2.1 pc = .ok (.ireturn, 1)) (hr : M.2.2.2 = some .int) (h1 : k ≤ mc) (h2 : n ≤ ms) (hq : Q (some (.int v)) w) : PW G M R (QM G Q mc ms) k n (pc, lv, [.int v], w) := by
  intro p e s m args below meth c hc H locs ls hl0 hH hS
  have hlk := hc.2.2.2.2.1
  exact W.widen h1 h2 (W.iret hc.1 hc.2.1 (hc.2.2.2.1.trans hr) (end_q (r := some (.int v)) hc hH hS rfl hq) hS.2.2 d)
theorem P_zret {v : Int32} {t : FieldType} (d : decode M.2.1 pc = .ok (.ireturn, 1)) (hr : M.2.2.2 = some t) (hn : narrow t (.int v) = .int v) (h1 : k ≤ mc) (h2 : n ≤ ms) (hq : Q (some (.int v)) w) : PW G M R (QM G Q mc ms) k n (pc, lv, [.int v], w) := by
  intro p e s m args below meth c hc H locs ls hl0 hH hS
  have hlk := hc.2.2.2.2.1
  exact W.widen h1 h2 (W.zret hc.1 hc.2.1 (hc.2.2.2.1.trans hr) hn (end_q (r := some (.int v)) hc hH hS rfl hq) hS.2.2 d)
theorem P_lret {v : Int64} (d : decode M.2.1 pc = .ok (.lreturn, 1)) (hr : M.2.2.2 = some .long) (h1 : k ≤ mc) (h2 : n ≤ ms) (hq : Q (some (.long v)) w) : PW G M R (QM G Q mc ms) k n (pc, lv, [.long v], w) := by
  intro p e s m args below meth c hc H locs ls hl0 hH hS
  have hlk := hc.2.2.2.2.1
  exact W.widen h1 h2 (W.lret hc.1 hc.2.1 (hc.2.2.2.1.trans hr) (end_q (r := some (.long v)) hc hH hS rfl hq) hS.2.2 d)
theorem P_vret (d : decode M.2.1 pc = .ok (.return_, 1)) (hr : M.2.2.2 = none) (h1 : k ≤ mc) (h2 : n ≤ ms) (hq : Q none w) : PW G M R (QM G Q mc ms) k n (pc, lv, [], w) := by
  intro p e s m args below meth c hc H locs ls hl0 hH hS
  have hlk := hc.2.2.2.2.1
  exact W.widen h1 h2 (W.vret hc.1 hc.2.1 (hc.2.2.2.1.trans hr) (end_q (r := none) hc hH hS rfl hq) hS.2.2 d)
theorem P_aret {v : Nat} {t : FieldType} (d : decode M.2.1 pc = .ok (.areturn, 1)) (hr : M.2.2.2 = some t) (ht : (∃ n, t = .object n) ∨ ∃ u, t = .array u) (h1 : k ≤ mc) (h2 : n ≤ ms) (hq : Q (some (.ref v)) w) : PW G M R (QM G Q mc ms) k n (pc, lv, [.ref v], w) := by
  intro p e s m args below meth c hc H locs ls hl0 hH hS
  have hlk := hc.2.2.2.2.1
  exact W.widen h1 h2 (W.aret hc.1 hc.2.1 (hc.2.2.2.1.trans hr) ht (Or.inr ⟨_, rfl⟩) (end_q (r := some (.ref v)) hc hH hS rfl hq) hS.2.2 d)
end PWE
end
section
/-! the JDK's small functions, rows copied, rows of rows -/
section PWX
variable {G : pG} {M : pM} {R : Room} {QF : List Frame → Array Value → State → State → Prop} {k n pc : Nat} {lv : List (Nat × Value)} {st : List Value} {w : pW}
theorem sum8 {st : List Value} {f : Nat → Nat} {z L : Nat} (h : (st.map Value.category).sum ≤ 8) (hz : 8 + z ≤ L) : ((st.map (tv f)).map fun v => v.category).sum + z ≤ L := by
  rw [sum_tv]; omega
theorem P_mabsl {index : Nat} {x : Int64} (d : decode M.2.1 pc = .ok (.invokestatic index, 3)) (hl : Cond.methodLink M.1.cls index Lib.MathLoose.abs_long.x ∈ gtbl) (hst : Cond.static Lib.MathLoose.abs_long.x ∈ gtbl) (hini : Cond.initialized "java/lang/Math" ∈ gtbl) (hco : Cond.code Lib.MathLoose.abs_long.x Lib.MathLoose.abs_long.code 2 (some .long) ∈ gtbl) (hR : 1 ≤ R.frames ∧ 23 ≤ R.locals ∧ k ≤ R.cells ∧ n ≤ R.slots) (hcat : (st.map Value.category).sum ≤ 8)
    (kk : PW G M R QF k n (pc + 3, lv, .long (if 0 < x then x else -x) :: st, w)) : PW G M R QF k n (pc, lv, .long x :: st, w) := by
  intro p e s m args below meth c hc H locs ls hl0 hH hS
  have hts := hc.2.2.2.2.2.2.2.1
  exact va_mabs_long hc.1 hc.2.1 (hc.2.2.1.trans hl0.1.symm) hc.2.2.2.2.2.2.1 (hts _ hl) (hts _ hst) (hts _ hini) (hts _ hco) hR.1 (sum8 hcat (by omega)) hR.2.2.1 hR.2.2.2 d (kk p e s m args below meth c hc H locs ls hl0 hH hS)
theorem P_mmaxl {index : Nat} {x y : Int64} (d : decode M.2.1 pc = .ok (.invokestatic index, 3)) (hl : Cond.methodLink M.1.cls index Lib.MathLoose.max_long.x ∈ gtbl) (hst : Cond.static Lib.MathLoose.max_long.x ∈ gtbl) (hini : Cond.initialized "java/lang/Math" ∈ gtbl) (hco : Cond.code Lib.MathLoose.max_long.x Lib.MathLoose.max_long.code 4 (some .long) ∈ gtbl) (hR : 1 ≤ R.frames ∧ 23 ≤ R.locals ∧ k ≤ R.cells ∧ n ≤ R.slots) (hcat : (st.map Value.category).sum ≤ 8)
    (kk : PW G M R QF k n (pc + 3, lv, .long (if y < x then x else y) :: st, w)) : PW G M R QF k n (pc, lv, .long y :: .long x :: st, w) := by
  intro p e s m args below meth c hc H locs ls hl0 hH hS
  have hts := hc.2.2.2.2.2.2.2.1
  exact va_mmax_long hc.1 hc.2.1 (hc.2.2.1.trans hl0.1.symm) hc.2.2.2.2.2.2.1 (hts _ hl) (hts _ hst) (hts _ hini) (hts _ hco) hR.1 (sum8 hcat (by omega)) hR.2.2.1 hR.2.2.2 d (kk p e s m args below meth c hc H locs ls hl0 hH hS)
theorem P_mmini {index : Nat} {x y : Int32} (d : decode M.2.1 pc = .ok (.invokestatic index, 3)) (hl : Cond.methodLink M.1.cls index Lib.Math.min.name ∈ gtbl) (hst : Cond.static Lib.Math.min.name ∈ gtbl) (hini : Cond.initialized "java/lang/Math" ∈ gtbl) (hco : Cond.code Lib.Math.min.name Lib.Math.min.code 2 (some .int) ∈ gtbl) (hR : 1 ≤ R.frames ∧ 23 ≤ R.locals ∧ k ≤ R.cells ∧ n ≤ R.slots) (hcat : (st.map Value.category).sum ≤ 8)
    (kk : PW G M R QF k n (pc + 3, lv, .int (if y < x then y else x) :: st, w)) : PW G M R QF k n (pc, lv, .int y :: .int x :: st, w) := by
  intro p e s m args below meth c hc H locs ls hl0 hH hS
  have hts := hc.2.2.2.2.2.2.2.1
  exact va_mmin hc.1 hc.2.1 (hc.2.2.1.trans hl0.1.symm) hc.2.2.2.2.2.2.1 (hts _ hl) (hts _ hst) (hts _ hini) (hts _ hco) hR.1 (sum8 hcat (by omega)) hR.2.2.1 hR.2.2.2 d (kk p e s m args below meth c hc H locs ls hl0 hH hS)
theorem ix_toInt {z : Int32} {j : Nat} (h : ix z j) : z.toInt = (j : Int) := by
  have hz0 : (0 : Int) ≤ z.toInt := by
    have := Int32.not_lt.mp h.2
    simpa using Int32.le_iff_toInt_le.mp this
  have h1 := h.1
  have h2 : z.toInt.toNat = j := h1
  omega
/-- System.arraycopy between rows of longs -/
theorem P_copyl {index a b na nb : Nat} {sp dp nn : Int32} {i j q : Nat} {f g : Nat → Int64} (d : decode M.2.1 pc = .ok (.invokestatic index, 3)) (hlk : Cond.methodLink M.1.cls index arraycopyName ∈ gtbl) (hna : Cond.native arraycopyName ∈ gtbl) (hst : Cond.static arraycopyName ∈ gtbl) (hini : Cond.initialized "java/lang/System" ∈ gtbl)
    (ha : w.2 a = .inl (1, na, .inr (.inl f))) (hb : w.2 b = .inl (1, nb, .inr (.inl g))) (hbx : b < 1000000) (hi : ix sp i) (hj : ix dp j) (hq : ix nn q) (h4 : i + q ≤ na) (h5 : j + q ≤ nb) (hR : 1 ≤ R.frames ∧ 60 ≤ R.locals) (hcat : (st.map Value.category).sum ≤ 8)
    (kk : PW G M R QF k n (pc + 3, lv, st, (w.1, wu w.2 b (.inl (1, nb, .inr (.inl (va_cpy f g i j q))))))) : PW G M R QF k n (pc, lv, .int nn :: .int dp :: .ref b :: .int sp :: .ref a :: st, w) := by
  intro p e s m args below meth c hc H locs ls hl0 hH hS T hT X
  have hts := hc.2.2.2.2.2.2.2.1
  have hK := hc.2.2.2.2.2.2.2.2.1.1
  obtain ⟨-, ca, a1, a2, a3, a4, a5, a6⟩ := pe_arr hK hc.2.2.2.2.2.2.2.2.2.1 hS hH ha
  obtain ⟨b0, b1, b2⟩ := own_arr hH hb hbx
  obtain ⟨hao, k0, hk0, cm0, hkk0⟩ := a2
  obtain ⟨-, k1, hk1, cm1, hkk1⟩ := (hK.2 1 _ (tysG_at G b1)).1 nb (fun j => tv (g_f G) (pv (nb, .inr (.inl g)) j))
  have e1 : ∀ z, z < q → ca.slots.getD (i + z) .null = .long (f (i + z)) := fun z hz => by
    rw [Array.getD_eq_getD_getElem?, a6 (i + z) (by show i + z < na; omega)]
    rfl
  have hs : ca.stretch i q = (arrV 0 (i + q) (fun z => .long (f z))).stretch i q := by
    unfold Cell.stretch
    apply List.map_congr_left
    intro z hz
    have hz' := List.mem_range.mp hz
    rw [e1 z hz', Array.getD_eq_getD_getElem?, arrV_read _ _ (by omega)]
    rfl
  have w5 : nativeFrameWords "java/lang/System" "arraycopy" 5 + 11 ≤ 52 := by decide +kernel
  obtain ⟨vm', X', step⟩ := X.arraycopy hc.1 hc.2.2.2.2.2.2.1 (hts _ hlk) (hts _ hna) (hts _ hst) (hts _ hini) (src := g_f G a) (dst := g_f G b) (cs := ca) (cd := arrV (g_c G 1) nb (fun j => tv (g_f G) (pv (nb, .inr (.inl g)) j))) (srcPos := sp) (destPos := dp) (n := nn) (by rw [hT]; exact a1) (by rw [hT]; exact b2)
    hao (fun _ h => by cases h) a3 (fun h => by cases h) hk0 hk1 hkk0 hkk1 (show ((refKind FieldType.long != refKind FieldType.long) || (!refKind FieldType.long && FieldType.long != FieldType.long)) = false by decide) hi.2 hj.2 hq.2
    (by rw [ix_toInt hi, ix_toInt hq]; have a4 : na ≤ ca.slots.size := a4; omega)
    (by rw [ix_toInt hj, ix_toInt hq, arrV_size]; omega)
    (fun vm₁ _ z hz => by
      rw [hq.1] at hz
      rw [hi.1, e1 z hz]
      exact ⟨rfl, trivial⟩)
    (g := F0 m pc ls (.int nn :: .int dp :: .ref (g_f G b) :: .int sp :: .ref (g_f G a) :: st.map (tv (g_f G)))) rfl (hl0.1.trans hc.2.2.1.symm) (rest := st.map (tv (g_f G))) rfl (by rw [hc.2.1]; exact d) hR.1 (by
      have h8 := room8 (m := m) (pc := pc) (ls := ls) (s0 := .int nn :: .int dp :: .ref (g_f G b) :: .int sp :: .ref (g_f G a) :: st.map (tv (g_f G))) (f := g_f G) hcat
      omega)
  have e2 : copied ca (arrV (g_c G 1) nb (fun j => tv (g_f G) (pv (nb, .inr (.inl g)) j))) sp dp nn = arrV (g_c G 1) nb (fun z => .long (va_cpy f g i j q z)) := by
    unfold copied
    rw [hi.1, hj.1, hq.1, hs]
    exact va_copied (fun z => .long z) 0 (g_c G 1) f g (Nat.le_refl _)
  rw [e2] at X' step
  have hl : g_f G b < H.size := (Array.getElem?_eq_some_iff.mp b2).1
  have hheap : ((T.setVm vm').setCell (g_f G b) (arrV (g_c G 1) nb (fun z => .long (va_cpy f g i j q z)))).heap = H.setIfInBounds (g_f G b) (arrV (g_c G 1) nb (fun z => .long (va_cpy f g i j q z))) := by rw [← hT]; rfl
  have oq : ∀ z : Nat, z ≠ g_f G b → (H.setIfInBounds (g_f G b) (arrV (g_c G 1) nb (fun z => .long (va_cpy f g i j q z))))[z]? = H[z]? := fun z hz => by simp [Array.getElem?_setIfInBounds, Ne.symm hz]
  obtain ⟨t, x1, x2⟩ := kk p e s m args below meth c hc _ _ ls hl0 (hH.set b0 (e := .inl (1, nb, .inr (.inl (va_cpy f g i j q)))) ⟨(by decide : 1 < 5), by simp [Array.getElem?_setIfInBounds, hl]; rfl⟩ (by simp) oq) ⟨by simp; exact hS.1, fun z g1 g2 => by
      rw [oq z (fun e => g2 (by rw [e]; exact g_A_f hbx))]
      exact hS.2.1 z g1 g2, fun z hz => by
      rcases List.mem_append.mp hz with h | h
      · exact hS.2.2 z h
      · obtain ⟨y, -, hy⟩ := List.mem_map.mp h
        rw [← hy]
        exact g_A_f hbx⟩ _ hheap X'
  exact ⟨t, step t x1, x2⟩
/-- the world grows by several cells at once -/
theorem HW.grow {G : pG} {w w' : pW} {H H1 : Heap} (h : HW G w H) (h1 : w.1 ≤ w'.1) (h2 : w'.1 ≤ 1000000) (z : H1.size = g_b G + w'.1) (oq : ∀ q : Nat, q < H.size → H1[q]? = H[q]?) (hold : ∀ i, i < w.1 → w'.2 i = w.2 i) (hnew : ∀ i, w.1 ≤ i → i < w'.1 → pat G i (w'.2 i) H1) (hout : ∀ i, w'.1 ≤ i → w'.2 i = w.2 i) : HW G w' H1 := by
  obtain ⟨g1, g2, g3, g4, g5⟩ := h
  refine ⟨z, h2, fun i hi => ?_, fun i hi hx => ?_, fun j => ?_⟩
  · by_cases hl : i < w.1
    · rw [hold i hl]
      refine (g3 i hl).kept (oq _ ?_)
      rw [g_f_own (by omega)]
      omega
    · exact hnew i (by omega) hi
  · rw [hout i hi]
    exact g4 i (by omega) hx
  · rw [hout _ (by omega)]
    exact g5 j
def wr (f : Nat → pE) (lo hi : Nat) (e : pE) : Nat → pE := fun i => if lo ≤ i ∧ i < hi then e else f i
theorem wr_in {f : Nat → pE} {lo hi i : Nat} {e : pE} (h1 : lo ≤ i) (h2 : i < hi) : wr f lo hi e i = e := if_pos ⟨h1, h2⟩
theorem wr_out {f : Nat → pE} {lo hi i : Nat} {e : pE} (h : ¬ (lo ≤ i ∧ i < hi)) : wr f lo hi e i = f i := if_neg h
theorem vr_outer (c : ClassId) (N h0 : Nat) : ∀ i : Nat, Jvm.Free.Multi.outerC c N h0 i = arrV c N (fun j => va_rf (if j < i then some (h0 + 1 + j) else none))
  | 0 => by
    show ({ cls := c, slots := Array.replicate N .null, vm := .none } : Cell) = _
    rw [arrV_new]
    refine congrArg (arrV c N) (funext fun j => ?_)
    simp [va_rf]
  | i + 1 => by
    show (Jvm.Free.Multi.outerC c N h0 i).setSlot i (.ref (h0 + 1 + i)) = _
    rw [vr_outer c N h0 i, arrV_store]
    refine congrArg (arrV c N) (funext fun j => ?_)
    by_cases e : j = i
    · subst e
      simp [updV, va_rf]
    · by_cases h : j < i
      · simp [updV, e, h, Nat.lt_succ_of_lt h]
      · simp [updV, e, h, show ¬ j < i + 1 by omega]
def rows_of (n0 N : Nat) : Nat → Option Nat := fun i => if i < N then some (n0 + 1 + i) else none
/-- new long[N][K] -/
theorem P_mnew {index N K : Nat} {z y : Int32} (d : decode M.2.1 pc = .ok (.multianewarray index 2, 4)) (hcl : Cond.classLink M.1.cls index "[[J" ∈ gtbl) (hac : Cond.arrayClass .long ∈ gtbl) (hz : ix z N) (hy : ix y K) (hb1 : N * 4 ≤ 536870912) (hb2 : K * componentBytes .long ≤ 536870912) (hcells : k + (1 + N) ≤ R.cells) (hslots : n + (N + N * K) ≤ R.slots) (hwx : w.1 + 1 + N ≤ 1000000)
    (kk : PW G M R QF (k + 1 + N) (n + N + N * K) (pc + 4, lv, .ref w.1 :: st, (w.1 + 1 + N, wr (wu w.2 w.1 (.inl (3, N, .inr (.inr (.inr (.inr (rows_of w.1 N))))))) (w.1 + 1) (w.1 + 1 + N) (.inl (1, K, .inr (.inl (fun _ => 0))))))) : PW G M R QF k n (pc, lv, .int y :: .int z :: st, w) := by
  intro p e s m args below meth c hc H locs ls hl0 hH hS T hT X
  have hts := hc.2.2.2.2.2.2.2.1
  have hKX := hc.2.2.2.2.2.2.2.2.1
  have hK := hKX.1
  obtain ⟨hz1, hz2⟩ := hz
  obtain ⟨hy1, hy2⟩ := hy
  subst hz1
  subst hy1
  have hb3 : y.toNatClampNeg ≤ 536870912 := by
    have : componentBytes .long = 8 := rfl
    rw [this] at hb2
    omega
  have hover : (Cond.arrayOver (.array .long)).before args s = true := Stand.arrayOver_alikeB (Vm.Alike.refl s.vm) hKX.2.2.2
  obtain ⟨vm₁, cA, comp, -, fA, fC, -, -, X', step⟩ := X.multianewarray2F hc.1 hc.2.2.2.2.2.2.1 (hts _ hcl) hover (hts _ hac) (g := F0 m pc ls (.int y :: .int z :: st.map (tv (g_f G)))) rfl (by rw [hc.2.1]; exact d) rfl hz2 hy2 hb1 hb2 hb3 rfl rfl hcells hslots
  have hTh : (T.setVm vm₁).heap = H := hT
  obtain ⟨f1, f2, -, -⟩ := Jvm.Free.Multi.fill_facts (T.setVm vm₁) cA comp z.toNatClampNeg y.toNatClampNeg (defaultValue .long) z.toNatClampNeg
  have hold : ∀ x : Nat, x < H.size → (Jvm.Free.Multi.fill (T.setVm vm₁) cA comp z.toNatClampNeg y.toNatClampNeg (defaultValue .long) z.toNatClampNeg).heap[x]? = H[x]? := fun x hx => by
    have := Jvm.Free.Multi.fill_old (T.setVm vm₁) cA comp z.toNatClampNeg y.toNatClampNeg (defaultValue .long) (a := x) (by rw [hTh]; exact hx) z.toNatClampNeg
    rw [hTh] at this
    exact this
  have hrow : ∀ j : Nat, j < z.toNatClampNeg → (Jvm.Free.Multi.fill (T.setVm vm₁) cA comp z.toNatClampNeg y.toNatClampNeg (defaultValue .long) z.toNatClampNeg).heap[H.size + 1 + j]? = some (Jvm.Free.Multi.innerC comp y.toNatClampNeg (defaultValue .long)) := fun j hj => by
    have := Jvm.Free.Multi.fill_inner (T.setVm vm₁) cA comp z.toNatClampNeg y.toNatClampNeg (defaultValue .long) z.toNatClampNeg j hj
    rw [hTh] at this
    exact this
  rw [hTh] at f1 f2
  rw [vr_outer] at f2
  generalize hF : Jvm.Free.Multi.fill (T.setVm vm₁) cA comp z.toNatClampNeg y.toNatClampNeg (defaultValue .long) z.toNatClampNeg = F at X' step f1 f2 hold hrow
  have cA3 : cA = g_c G 3 := Option.some.inj (fA.symm.trans (hK.2 3 _ (tysG_at G (by decide))).2)
  have cC1 : comp = g_c G 1 := Option.some.inj (fC.symm.trans (hK.2 1 _ (tysG_at G (by decide))).2)
  have hs0 : H.size = g_b G + w.1 := hH.1
  have e2 : g_f G w.1 = H.size := by rw [g_f_own (by omega)]; exact hs0.symm
  have key := kk p e s m args below meth c hc F.heap locs ls hl0 (hH.grow (w' := (w.1 + 1 + z.toNatClampNeg, wr (wu w.2 w.1 (.inl (3, z.toNatClampNeg, .inr (.inr (.inr (.inr (rows_of w.1 z.toNatClampNeg))))))) (w.1 + 1) (w.1 + 1 + z.toNatClampNeg) (.inl (1, y.toNatClampNeg, .inr (.inl (fun _ => 0)))))) (by show w.1 ≤ w.1 + 1 + _; omega) hwx (by show F.heap.size = g_b G + (w.1 + 1 + _); omega) hold
    (fun i hi => by
      have hi : i < w.1 := hi
      exact (wr_out (by omega)).trans (wu_n (by omega)))
    (fun i h1 h2 => by
      have h1 : w.1 ≤ i := h1
      have h2 : i < w.1 + 1 + z.toNatClampNeg := h2
      by_cases he : i = w.1
      · subst he
        show pat G w.1 (wr (wu w.2 w.1 _) (w.1 + 1) (w.1 + 1 + z.toNatClampNeg) _ w.1) F.heap
        rw [wr_out (by omega), wu_s]
        refine ⟨(by decide : 3 < 5), ?_⟩
        rw [e2, f2, ta_cell, cA3]
        refine congrArg some (congrArg (arrV _ _) (funext fun j => ?_))
        show _ = tv (g_f G) (va_rf (rows_of w.1 z.toNatClampNeg j))
        rw [tv_rf]
        unfold rows_of
        by_cases hj : j < z.toNatClampNeg
        · rw [if_pos hj, if_pos hj]
          show va_rf (some (H.size + 1 + j)) = va_rf (some (g_f G (w.1 + 1 + j)))
          rw [g_f_own (by omega), hs0]
          congr 2
          omega
        · rw [if_neg hj, if_neg hj]
          rfl
      · obtain ⟨j, hj⟩ : ∃ j, i = w.1 + 1 + j := ⟨i - (w.1 + 1), by omega⟩
        subst hj
        show pat G (w.1 + 1 + j) (wr (wu w.2 w.1 _) (w.1 + 1) (w.1 + 1 + z.toNatClampNeg) _ (w.1 + 1 + j)) F.heap
        rw [wr_in (by omega) h2]
        refine ⟨(by decide : 1 < 5), ?_⟩
        have hq : g_f G (w.1 + 1 + j) = H.size + 1 + j := by rw [g_f_own (by omega)]; omega
        rw [hq, hrow j (by omega), ta_cell, cC1]
        show some ({ cls := g_c G 1, slots := Array.replicate y.toNatClampNeg (defaultValue .long), vm := .none } : Cell) = _
        rw [arrV_new]
        rfl)
    (fun i h1 => by
      have h1 : w.1 + 1 + z.toNatClampNeg ≤ i := h1
      exact (wr_out (by omega)).trans (wu_n (by omega))))
    ⟨Nat.le_trans hS.1 (by rw [f1]; omega), fun q g1 g2 => (hold q (Nat.lt_of_lt_of_le g1 hS.1)).trans (hS.2.1 q g1 g2), hS.2.2⟩
  have key2 := key F rfl X'
  obtain ⟨t, x1, x2⟩ := key2
  refine ⟨t, step t ?_, x2⟩
  have e3 : T.heap.size = g_f G w.1 := by rw [hT]; exact e2.symm
  rw [e3]
  exact x1
end PWX
end
section
/-! the classes, ready for use; the constructors of Quad and Plane -/
theorem ok_Quad : COK 0 R_Quad F_Quad 1 t_Quad := ⟨rfl, i_Quad, k_Quad, n_Quad⟩
theorem ok_Plane : COK 1 R_Plane F_Plane 7 t_Plane := ⟨rfl, i_Plane, k_Plane, n_Plane⟩
theorem ok_Tape : COK 2 R_Tape F_Tape 2 t_Tape := ⟨rfl, i_Tape, k_Tape, n_Tape⟩
theorem ok_Maker : COK 3 R_Maker F_Maker 3 t_Maker := ⟨rfl, i_Maker, k_Maker, n_Maker⟩
theorem ok_Reader : COK 4 R_Reader F_Reader 14 t_Reader := ⟨rfl, i_Reader, k_Reader, n_Reader⟩
theorem ok_Past : COK 5 R_Past F_Past 5 t_Past := ⟨rfl, i_Past, k_Past, n_Past⟩
theorem ok_Pairs : COK 6 R_Pairs F_Pairs 3 t_Pairs := ⟨rfl, i_Pairs, k_Pairs, n_Pairs⟩
theorem ok_SB : COK 7 R_SB F_SB 4 t_SB := ⟨rfl, i_SB, k_SB, n_SB⟩
theorem ok_CM : COK 8 R_CM F_CM 18 t_CM := ⟨rfl, i_CM, k_CM, n_CM⟩
theorem ok_Model : COK 9 R_Model F_Model 38 t_Model := ⟨rfl, i_Model, k_Model, n_Model⟩
theorem ac_int : Cond.arrayClass .int ∈ gtbl := g_at 119 (by decide +kernel) rfl
theorem ac_long : Cond.arrayClass .long ∈ gtbl := g_at 63 (by decide +kernel) rfl
theorem ac_byte : Cond.arrayClass .byte ∈ gtbl := g_at 264 (by decide +kernel) rfl
theorem im_objInit : Cond.instanceMethod Lib.objectInit ∈ gtbl := g_at 38 (by decide +kernel) rfl
theorem cd_objInit : Cond.code Lib.objectInit ⟨#[0xb1]⟩ 1 none ∈ gtbl := g_at 39 (by decide +kernel) rfl
theorem in_Quad : Cond.instantiable R_Quad 1 ∈ gtbl ∧ Cond.initialized R_Quad ∈ gtbl := ⟨g_at 50 (by decide +kernel) rfl, g_at 3 (by decide +kernel) rfl⟩
theorem in_Plane : Cond.instantiable R_Plane 7 ∈ gtbl ∧ Cond.initialized R_Plane ∈ gtbl := ⟨g_at 41 (by decide +kernel) rfl, g_at 2 (by decide +kernel) rfl⟩
theorem in_Tape : Cond.instantiable R_Tape 2 ∈ gtbl ∧ Cond.initialized R_Tape ∈ gtbl := ⟨g_at 104 (by decide +kernel) rfl, g_at 4 (by decide +kernel) rfl⟩
theorem in_Maker : Cond.instantiable R_Maker 3 ∈ gtbl ∧ Cond.initialized R_Maker ∈ gtbl := ⟨g_at 121 (by decide +kernel) rfl, g_at 5 (by decide +kernel) rfl⟩
theorem in_Reader : Cond.instantiable R_Reader 14 ∈ gtbl ∧ Cond.initialized R_Reader ∈ gtbl := ⟨g_at 139 (by decide +kernel) rfl, g_at 6 (by decide +kernel) rfl⟩
theorem in_Past : Cond.instantiable R_Past 5 ∈ gtbl ∧ Cond.initialized R_Past ∈ gtbl := ⟨g_at 190 (by decide +kernel) rfl, g_at 7 (by decide +kernel) rfl⟩
theorem in_Pairs : Cond.instantiable R_Pairs 3 ∈ gtbl ∧ Cond.initialized R_Pairs ∈ gtbl := ⟨g_at 214 (by decide +kernel) rfl, g_at 8 (by decide +kernel) rfl⟩
theorem in_SB : Cond.instantiable R_SB 4 ∈ gtbl ∧ Cond.initialized R_SB ∈ gtbl := ⟨g_at 233 (by decide +kernel) rfl, g_at 10 (by decide +kernel) rfl⟩
theorem in_CM : Cond.instantiable R_CM 18 ∈ gtbl ∧ Cond.initialized R_CM ∈ gtbl := ⟨g_at 33 (by decide +kernel) rfl, g_at 1 (by decide +kernel) rfl⟩
theorem in_Model : Cond.instantiable R_Model 38 ∈ gtbl ∧ Cond.initialized R_Model ∈ gtbl := ⟨g_at 1492 (by decide +kernel) rfl, g_at 13 (by decide +kernel) rfl⟩
theorem st_abs : Cond.static Lib.MathLoose.abs_long.x ∈ gtbl := g_at 450 (by decide +kernel) rfl
theorem cd_abs : Cond.code Lib.MathLoose.abs_long.x Lib.MathLoose.abs_long.code 2 (some .long) ∈ gtbl := g_at 451 (by decide +kernel) rfl
theorem st_max : Cond.static Lib.MathLoose.max_long.x ∈ gtbl := g_at 468 (by decide +kernel) rfl
theorem cd_max : Cond.code Lib.MathLoose.max_long.x Lib.MathLoose.max_long.code 4 (some .long) ∈ gtbl := g_at 469 (by decide +kernel) rfl
theorem st_min : Cond.static Lib.Math.min.name ∈ gtbl := g_at 346 (by decide +kernel) rfl
theorem cd_min : Cond.code Lib.Math.min.name Lib.Math.min.code 2 (some .int) ∈ gtbl := g_at 347 (by decide +kernel) rfl
theorem in_Math : Cond.initialized "java/lang/Math" ∈ gtbl := g_at 14 (by decide +kernel) rfl
theorem st_acopy : Cond.native arraycopyName ∈ gtbl ∧ Cond.static arraycopyName ∈ gtbl ∧ Cond.initialized "java/lang/System" ∈ gtbl := ⟨g_at 481 (by decide +kernel) rfl, g_at 480 (by decide +kernel) rfl, g_at 17 (by decide +kernel) rfl⟩
end
section
/-! constructors of Quad and Plane (declarations by program) -/
def M_Quad_init : pM := (⟨"CornerMaps$Quad", "<init>", "()V"⟩, prog_7_method_1_code, 1, none)
theorem co_Quad_init : CalOK M_Quad_init 0 := ⟨g_at 53 (by decide +kernel) rfl, g_at 3 (by decide +kernel) rfl, by decide, by decide, by decide +kernel⟩
def M_Plane_init : pM := (⟨"CornerMaps$Plane", "<init>", "()V"⟩, prog_6_method_1_code, 2, none)
theorem co_Plane_init : CalOK M_Plane_init 0 := ⟨g_at 44 (by decide +kernel) rfl, g_at 2 (by decide +kernel) rfl, by decide, by decide, by decide +kernel⟩
theorem im_Quad_init : Cond.instanceMethod M_Quad_init.1 ∈ gtbl := g_at 52 (by decide +kernel) rfl
theorem im_Plane_init : Cond.instanceMethod M_Plane_init.1 ∈ gtbl := g_at 43 (by decide +kernel) rfl
theorem L_Quad_3 : Cond.methodLink "CornerMaps$Quad" 3 ⟨"java/lang/Object", "<init>", "()V"⟩ ∈ gtbl := g_at 54 (by decide +kernel) rfl
theorem L_Quad_9 : Cond.classLink "CornerMaps$Quad" 9 "[[J" ∈ gtbl := g_at 55 (by decide +kernel) rfl
theorem L_Quad_11 : Cond.fieldLink "CornerMaps$Quad" 11 "CornerMaps$Quad" "corners" "[[J" ∈ gtbl := g_at 56 (by decide +kernel) rfl
theorem L_Plane_3 : Cond.methodLink "CornerMaps$Plane" 3 ⟨"java/lang/Object", "<init>", "()V"⟩ ∈ gtbl := g_at 45 (by decide +kernel) rfl
theorem L_Plane_9 : Cond.classLink "CornerMaps$Plane" 9 "CornerMaps$Quad" ∈ gtbl := g_at 46 (by decide +kernel) rfl
theorem L_Plane_11 : Cond.fieldLink "CornerMaps$Plane" 11 "CornerMaps$Plane" "quads" "[LCornerMaps$Quad;" ∈ gtbl := g_at 64 (by decide +kernel) rfl
theorem L_Plane_17 : Cond.classLink "CornerMaps$Plane" 17 "[[J" ∈ gtbl := g_at 48 (by decide +kernel) rfl
theorem L_Plane_19 : Cond.fieldLink "CornerMaps$Plane" 19 "CornerMaps$Plane" "maps" "[[J" ∈ gtbl := g_at 67 (by decide +kernel) rfl
theorem L_Plane_22 : Cond.fieldLink "CornerMaps$Plane" 22 "CornerMaps$Plane" "points" "[[J" ∈ gtbl := g_at 70 (by decide +kernel) rfl
theorem L_Plane_25 : Cond.methodLinkNest "CornerMaps$Plane" 25 ⟨"CornerMaps$Quad", "<init>", "()V"⟩ "CornerMaps" ∈ ntbl := nt_at 51 (by decide +kernel) rfl
theorem d_Quad_init_0 : decode prog_7_method_1_code 0 = .ok (.aload_n 0, 1) := by decide +kernel
theorem d_Quad_init_1 : decode prog_7_method_1_code 1 = .ok (.invokespecial 3, 3) := by decide +kernel
theorem d_Quad_init_4 : decode prog_7_method_1_code 4 = .ok (.aload_n 0, 1) := by decide +kernel
theorem d_Quad_init_5 : decode prog_7_method_1_code 5 = .ok (.iconst 4, 1) := by decide +kernel
theorem d_Quad_init_6 : decode prog_7_method_1_code 6 = .ok (.iconst 3, 1) := by decide +kernel
theorem d_Quad_init_7 : decode prog_7_method_1_code 7 = .ok (.multianewarray 9 2, 4) := by decide +kernel
theorem d_Quad_init_11 : decode prog_7_method_1_code 11 = .ok (.putfield 11, 3) := by decide +kernel
theorem d_Quad_init_14 : decode prog_7_method_1_code 14 = .ok (.return_, 1) := by decide +kernel
theorem d_Plane_init_0 : decode prog_6_method_1_code 0 = .ok (.aload_n 0, 1) := by decide +kernel
theorem d_Plane_init_1 : decode prog_6_method_1_code 1 = .ok (.invokespecial 3, 3) := by decide +kernel
theorem d_Plane_init_4 : decode prog_6_method_1_code 4 = .ok (.aload_n 0, 1) := by decide +kernel
theorem d_Plane_init_5 : decode prog_6_method_1_code 5 = .ok (.bipush (8), 2) := by decide +kernel
theorem d_Plane_init_7 : decode prog_6_method_1_code 7 = .ok (.anewarray 9, 3) := by decide +kernel
theorem d_Plane_init_10 : decode prog_6_method_1_code 10 = .ok (.putfield 11, 3) := by decide +kernel
theorem d_Plane_init_13 : decode prog_6_method_1_code 13 = .ok (.aload_n 0, 1) := by decide +kernel
theorem d_Plane_init_14 : decode prog_6_method_1_code 14 = .ok (.bipush (16), 2) := by decide +kernel
theorem d_Plane_init_16 : decode prog_6_method_1_code 16 = .ok (.bipush (9), 2) := by decide +kernel
theorem d_Plane_init_18 : decode prog_6_method_1_code 18 = .ok (.multianewarray 17 2, 4) := by decide +kernel
theorem d_Plane_init_22 : decode prog_6_method_1_code 22 = .ok (.putfield 19, 3) := by decide +kernel
theorem d_Plane_init_25 : decode prog_6_method_1_code 25 = .ok (.aload_n 0, 1) := by decide +kernel
theorem d_Plane_init_26 : decode prog_6_method_1_code 26 = .ok (.bipush (8), 2) := by decide +kernel
theorem d_Plane_init_28 : decode prog_6_method_1_code 28 = .ok (.iconst 3, 1) := by decide +kernel
theorem d_Plane_init_29 : decode prog_6_method_1_code 29 = .ok (.multianewarray 17 2, 4) := by decide +kernel
theorem d_Plane_init_33 : decode prog_6_method_1_code 33 = .ok (.putfield 22, 3) := by decide +kernel
theorem d_Plane_init_36 : decode prog_6_method_1_code 36 = .ok (.iconst 0, 1) := by decide +kernel
theorem d_Plane_init_37 : decode prog_6_method_1_code 37 = .ok (.istore_n 1, 1) := by decide +kernel
theorem d_Plane_init_38 : decode prog_6_method_1_code 38 = .ok (.iload_n 1, 1) := by decide +kernel
theorem d_Plane_init_39 : decode prog_6_method_1_code 39 = .ok (.bipush (8), 2) := by decide +kernel
theorem d_Plane_init_41 : decode prog_6_method_1_code 41 = .ok (.if_icmp .ge (22), 3) := by decide +kernel
theorem d_Plane_init_44 : decode prog_6_method_1_code 44 = .ok (.aload_n 0, 1) := by decide +kernel
theorem d_Plane_init_45 : decode prog_6_method_1_code 45 = .ok (.getfield 11, 3) := by decide +kernel
theorem d_Plane_init_48 : decode prog_6_method_1_code 48 = .ok (.iload_n 1, 1) := by decide +kernel
theorem d_Plane_init_49 : decode prog_6_method_1_code 49 = .ok (.new 9, 3) := by decide +kernel
theorem d_Plane_init_52 : decode prog_6_method_1_code 52 = .ok (.dup, 1) := by decide +kernel
theorem d_Plane_init_53 : decode prog_6_method_1_code 53 = .ok (.invokespecial 25, 3) := by decide +kernel
theorem d_Plane_init_56 : decode prog_6_method_1_code 56 = .ok (.aastore, 1) := by decide +kernel
theorem d_Plane_init_57 : decode prog_6_method_1_code 57 = .ok (.iinc 1 (1), 3) := by decide +kernel
theorem d_Plane_init_60 : decode prog_6_method_1_code 60 = .ok (.goto (-22), 3) := by decide +kernel
theorem d_Plane_init_63 : decode prog_6_method_1_code 63 = .ok (.return_, 1) := by decide +kernel

def z9 : pE := .inl (1, 9, .inr (.inl (fun _ => 0)))
def z3 : pE := .inl (1, 3, .inr (.inl (fun _ => 0)))
def refs (g : Nat → Option Nat) : (Nat → Int32) ⊕ (Nat → Int64) ⊕ (Nat → UInt32) ⊕ (Nat → UInt64) ⊕ (Nat → Option Nat) := .inr (.inr (.inr (.inr g)))
theorem le_b {a b : Nat} (h : Nat.ble a b = true) : a ≤ b := Nat.le_of_ble_eq_true h
/-- a new Quad: its object at b, its corners at c .. c + 4 -/
def QuadAt (f : Nat → pE) (b c : Nat) : Prop := f b = .inr (0, [.ref c]) ∧ f c = .inl (3, 4, refs (rows_of c 4)) ∧ ∀ i, i < 4 → f (c + 1 + i) = z3
theorem QuadAt.kept {f g : Nat → pE} {b c : Nat} (h : QuadAt f b c) (hb : g b = f b) (hc : ∀ i, c ≤ i → i < c + 5 → g i = f i) : QuadAt g b c :=
  ⟨hb.trans h.1, (hc c (Nat.le_refl _) (by omega)).trans h.2.1, fun i hi => (hc _ (by omega) (by omega)).trans (h.2.2 i hi)⟩
theorem c_Quad_init {G : pG} (b N : Nat) (f : Nat → pE) (hb : f b = .inr (0, [.null])) (hN : N + 5 ≤ 1000000) (hbN : b < N) : PM G M_Quad_init 1 5 16 [.ref b] (N, f) (fun r w' => r = none ∧ ∃ g : Nat → pE, w' = (N + 5, g) ∧ (∀ i, i ≠ b → (i < N ∨ N + 5 ≤ i) → g i = f i) ∧ QuadAt g b N) := by
  refine PM_of (by decide) (le_b rfl) ?_
  show PW _ _ _ _ _ _ (0, [(0, .ref b)], [], (N, f))
  refine P_aload_n d_Quad_init_0 rfl ?_
  refine P_objInit d_Quad_init_1 L_Quad_3 im_objInit cd_objInit ⟨le_b rfl, le_b rfl⟩ (le_b rfl) ?_
  refine P_aload_n d_Quad_init_4 rfl ?_
  refine P_iconst (v := 4) d_Quad_init_5 (by decide) ?_
  refine P_iconst (v := 3) d_Quad_init_6 (by decide) ?_
  refine P_mnew (N := 4) (K := 3) d_Quad_init_7 L_Quad_9 ac_long ⟨by decide, by decide⟩ ⟨by decide, by decide⟩ (le_b rfl) (le_b rfl) (le_b rfl) (le_b rfl) hN ?_
  refine P_putF (i := 0) d_Quad_init_11 ok_Quad (by decide) rfl L_Quad_11 rfl rfl ((wr_out (by show ¬ (N + 1 ≤ b ∧ b < N + 1 + 4); omega)).trans ((wu_n (Nat.ne_of_lt hbN)).trans hb)) (fun _ => rfl) (fun _ => rfl) ?_
  refine P_vret d_Quad_init_14 rfl (le_b rfl) (le_b rfl) ⟨rfl, _, rfl, fun i h1 h2 => ?_, ?_, ?_, fun i hi => ?_⟩
  · show wu (wr (wu f N _) (N + 1) (N + 1 + 4) _) b _ i = f i
    rw [wu_n h1, wr_out (by omega), wu_n (by omega)]
  · exact wu_s _ _ _
  · show wu (wr (wu f N _) (N + 1) (N + 1 + 4) _) b _ N = _
    rw [wu_n (by omega), wr_out (by omega), wu_s]
    rfl
  · show wu (wr (wu f N _) (N + 1) (N + 1 + 4) _) b _ (N + 1 + i) = _
    rw [wu_n (by omega), wr_in (by omega) (by omega)]
    rfl
def pq (n q : Nat) : Nat → Option Nat := fun i => if i < q then some (n + 27 + 6 * i) else none
theorem pq_up (n q : Nat) : va_up (pq n q) q (some (n + 27 + 6 * q)) = pq n (q + 1) := by
  funext i
  unfold va_up pq
  by_cases h : i = q
  · subst h
    rw [if_pos rfl, if_pos (by omega)]
  · rw [if_neg h]
    by_cases h2 : i < q
    · rw [if_pos h2, if_pos (by omega)]
    · rw [if_neg h2, if_neg (by omega)]
/-- a new Plane: its object at b, its cells at n .. n + 74 -/
def PlaneAt (f : Nat → pE) (b n : Nat) : Prop :=
  f b = .inr (1, [.ref n, .ref (n + 1), .ref (n + 18), .int 0, .int 0, .int 0, .int 0]) ∧ f n = .inl (4, 8, refs (pq n 8)) ∧ f (n + 1) = .inl (3, 16, refs (rows_of (n + 1) 16)) ∧ (∀ i, i < 16 → f (n + 2 + i) = z9) ∧ f (n + 18) = .inl (3, 8, refs (rows_of (n + 18) 8)) ∧ (∀ i, i < 8 → f (n + 19 + i) = z3) ∧ ∀ q, q < 8 → QuadAt f (n + 27 + 6 * q) (n + 28 + 6 * q)
theorem PlaneAt.kept {f g : Nat → pE} {b n : Nat} (h : PlaneAt f b n) (hb : g b = f b) (hc : ∀ i, n ≤ i → i < n + 75 → g i = f i) : PlaneAt g b n := by
  obtain ⟨h1, h2, h3, h4, h5, h6, h7⟩ := h
  exact ⟨hb.trans h1, (hc _ (by omega) (by omega)).trans h2, (hc _ (by omega) (by omega)).trans h3, fun i hi => (hc _ (by omega) (by omega)).trans (h4 i hi), (hc _ (by omega) (by omega)).trans h5, fun i hi => (hc _ (by omega) (by omega)).trans (h6 i hi), fun q hq => (h7 q hq).kept (hc _ (by omega) (by omega)) (fun i h1 h2 => hc i (by omega) (by omega))⟩
def pfs (n : Nat) : List Value := [.ref n, .ref (n + 1), .ref (n + 18), .int 0, .int 0, .int 0, .int 0]
theorem plane_loop {G : pG} (b n : Nat) (f0 : Nat → pE) (hn : n + 75 ≤ 1000000) (hbn : b < n) (Q : Option Value → pW → Prop)
    (hQ : ∀ g : Nat → pE, g b = .inr (1, pfs n) → g n = .inl (4, 8, refs (pq n 8)) → (∀ i, i ≠ n → (i < n + 27 ∨ n + 75 ≤ i) → g i = f0 i) → (∀ q, q < 8 → QuadAt g (n + 27 + 6 * q) (n + 28 + 6 * q)) → Q none (n + 75, g)) :
    ∀ (j q : Nat), q + j = 8 → ∀ f : Nat → pE, f b = .inr (1, pfs n) → f n = .inl (4, 8, refs (pq n q)) → (∀ i, i ≠ n → (i < n + 27 ∨ n + 27 + 6 * q ≤ i) → f i = f0 i) → (∀ i, i < q → QuadAt f (n + 27 + 6 * i) (n + 28 + 6 * i)) →
    PW G M_Plane_init (rmD 2 75 336) (QM G Q 75 336) (27 + 6 * q) (200 + 17 * q) (38, [(0, .ref b), (1, .int (nI q))], [], (n + 27 + 6 * q, f)) := by
  intro j
  induction j with
  | zero =>
    intro q hq f hb hf hfr hqd
    have hq8 : q = 8 := by omega
    subst hq8
    refine P_iload_n d_Plane_init_38 rfl ?_
    refine P_bipush (v := 8) d_Plane_init_39 (by decide) ?_
    refine P_icmp_ge 63 d_Plane_init_41 (by decide) (fun _ => ?_) (fun h => absurd (by decide) h)
    exact P_vret d_Plane_init_63 rfl (le_b rfl) (le_b rfl) (hQ f hb hf hfr hqd)
  | succ j ih =>
    intro q hq f hb hf hfr hqd
    have hq8 : q < 8 := by omega
    refine P_iload_n d_Plane_init_38 rfl ?_
    refine P_bipush (v := 8) d_Plane_init_39 (by decide) ?_
    refine P_icmp_ge 63 d_Plane_init_41 (by decide) (fun h => absurd h (nI_ge (b := 8) hq8 (by decide))) (fun _ => ?_)
    refine P_aload_n d_Plane_init_44 rfl ?_
    refine P_getf (i := 0) d_Plane_init_45 ok_Plane (by decide) L_Plane_11 hb rfl ?_
    refine P_iload_n d_Plane_init_48 rfl ?_
    refine P_new (fs := [.null]) d_Plane_init_49 ok_Quad L_Plane_9 in_Quad.1 in_Quad.2 rfl (fun j hj => by rw [show j = 0 by omega]; rfl) (fun _ => rfl) (by show 27 + 6 * q + 1 ≤ 75; omega) (by show 200 + 17 * q + 1 ≤ 336; omega) (by show n + 27 + 6 * q < 1000000; omega) ?_
    refine P_dup d_Plane_init_52 rfl ?_
    refine P_callIN (as := []) (b := n + 27 + 6 * q) d_Plane_init_53 co_Quad_init rfl rfl L_Plane_25 im_Quad_init (c_Quad_init (n + 27 + 6 * q) (n + 27 + 6 * q + 1) _ (wu_s _ _ _) (by omega) (by omega)) rfl ⟨le_b rfl, le_b rfl⟩ ⟨by show 27 + 6 * q + 1 + 5 ≤ 75; omega, by show 200 + 17 * q + 1 + 16 ≤ 336; omega⟩ (le_b rfl) ?_ _ rfl
    rintro _ _ ⟨rfl, g, rfl, hg, hqa⟩
    have hb1 : g b = .inr (1, pfs n) := (hg b (by omega) (by omega)).trans ((wu_n (by show b ≠ n + 27 + 6 * q; omega)).trans hb)
    have hf1 : g n = .inl (4, 8, refs (pq n q)) := (hg n (by omega) (by omega)).trans ((wu_n (by show n ≠ n + 27 + 6 * q; omega)).trans hf)
    refine P_aast (j := q) (f := pq n q) (v := n + 27 + 6 * q) (r := n) d_Plane_init_56 hf1 (by omega) hqa.1 (ix_nI (by omega)) hq8 ?_
    refine P_iinc (v := nI (q + 1)) d_Plane_init_57 (by decide) rfl (nI_1 q) rfl ?_
    refine P_goto 38 d_Plane_init_60 (by decide) ?_
    rw [pq_up]
    refine ih (q + 1) (by omega) _ ((wu_n (by show b ≠ n; omega)).trans hb1) (wu_s _ _ _) (fun i h1 h2 => ?_) (fun i hi => ?_)
    · show wu g n _ i = f0 i
      rw [wu_n h1, hg i (by omega) (by omega)]
      show wu f (n + 27 + 6 * q) _ i = f0 i
      rw [wu_n (by omega)]
      exact hfr i h1 (by omega)
    · by_cases hiq : i = q
      · subst hiq
        rw [show n + 28 + 6 * i = n + 27 + 6 * i + 1 by omega]
        exact hqa.kept (g := wu g n (.inl (4, 8, refs (pq n (i + 1))))) (wu_n (by omega)) (fun z h1 h2 => wu_n (by omega))
      · refine (hqd i (by omega)).kept ?_ (fun z h1 h2 => ?_)
        · show wu g n _ _ = _
          rw [wu_n (by omega), hg _ (by omega) (by omega)]
          exact wu_n (by show _ ≠ n + 27 + 6 * q; omega)
        · show wu g n _ z = _
          rw [wu_n (by omega), hg z (by omega) (by omega)]
          exact wu_n (by show z ≠ n + 27 + 6 * q; omega)
theorem c_Plane_init {G : pG} (b n : Nat) (f : Nat → pE) (hb : f b = .inr (1, [.null, .null, .null, .int 0, .int 0, .int 0, .int 0])) (hn : n + 75 ≤ 1000000) (hbn : b < n) : PM G M_Plane_init 2 75 336 [.ref b] (n, f) (fun r w' => r = none ∧ ∃ g : Nat → pE, w' = (n + 75, g) ∧ (∀ i, i ≠ b → (i < n ∨ n + 75 ≤ i) → g i = f i) ∧ PlaneAt g b n) := by
  refine PM_of (by decide) (le_b rfl) ?_
  show PW _ _ _ _ _ _ (0, [(0, .ref b)], [], (n, f))
  refine P_aload_n d_Plane_init_0 rfl ?_
  refine P_objInit d_Plane_init_1 L_Plane_3 im_objInit cd_objInit ⟨le_b rfl, le_b rfl⟩ (le_b rfl) ?_
  refine P_aload_n d_Plane_init_4 rfl ?_
  refine P_bipush (v := 8) d_Plane_init_5 (by decide) ?_
  refine P_anewQ (N := 8) d_Plane_init_7 L_Plane_9 ⟨by decide, by decide⟩ (le_b rfl) (le_b rfl) (le_b rfl) (by show n < 1000000; omega) ?_
  refine P_putF (i := 0) d_Plane_init_10 ok_Plane (by decide) rfl L_Plane_11 rfl rfl ((wu_n (by show b ≠ n; omega)).trans hb) (fun _ => rfl) (fun _ => rfl) ?_
  obtain ⟨f1, e1⟩ : ∃ f1, f1 = wu (wu f n (.inl (4, 8, .inr (.inr (.inr (.inr (fun _ => none))))))) b (.inr (1, [.ref n, .null, .null, .int 0, .int 0, .int 0, .int 0])) := ⟨_, rfl⟩
  have hb1 : f1 b = .inr (1, [.ref n, .null, .null, .int 0, .int 0, .int 0, .int 0]) := by rw [e1]; exact wu_s _ _ _
  have hn1 : f1 n = .inl (4, 8, refs (pq n 0)) := by
    rw [e1, wu_n (by omega), wu_s]
    exact congrArg (fun g => (Sum.inl (4, 8, refs g) : pE)) (funext fun i => (if_neg (Nat.not_lt_zero i)).symm)
  have ho1 : ∀ i, i ≠ b → i ≠ n → f1 i = f i := fun i h1 h2 => by rw [e1, wu_n h1, wu_n h2]
  show PW _ _ _ _ _ _ (13, [(0, .ref b)], [], (n + 1, wu (wu f n (.inl (4, 8, .inr (.inr (.inr (.inr (fun _ => none))))))) b (.inr (1, [.ref n, .null, .null, .int 0, .int 0, .int 0, .int 0]))))
  rw [← e1]
  refine P_aload_n d_Plane_init_13 rfl ?_
  refine P_bipush (v := 16) d_Plane_init_14 (by decide) ?_
  refine P_bipush (v := 9) d_Plane_init_16 (by decide) ?_
  refine P_mnew (N := 16) (K := 9) d_Plane_init_18 L_Plane_17 ac_long ⟨by decide, by decide⟩ ⟨by decide, by decide⟩ (le_b rfl) (le_b rfl) (le_b rfl) (le_b rfl) (by show n + 1 + 1 + 16 ≤ 1000000; omega) ?_
  refine P_putF (i := 1) d_Plane_init_22 ok_Plane (by decide) rfl L_Plane_19 rfl rfl ((wr_out (by show ¬ (n + 1 + 1 ≤ b ∧ b < n + 1 + 1 + 16); omega)).trans ((wu_n (by show b ≠ n + 1; omega)).trans hb1)) (fun _ => rfl) (fun _ => rfl) ?_
  obtain ⟨f2, e2⟩ : ∃ f2, f2 = wu (wr (wu f1 (n + 1) (.inl (3, 16, .inr (.inr (.inr (.inr (rows_of (n + 1) 16))))))) (n + 1 + 1) (n + 1 + 1 + 16) (.inl (1, 9, .inr (.inl (fun _ => 0))))) b (.inr (1, [.ref n, .ref (n + 1), .null, .int 0, .int 0, .int 0, .int 0])) := ⟨_, rfl⟩
  have hb2 : f2 b = .inr (1, [.ref n, .ref (n + 1), .null, .int 0, .int 0, .int 0, .int 0]) := by rw [e2]; exact wu_s _ _ _
  have hm2 : f2 (n + 1) = .inl (3, 16, refs (rows_of (n + 1) 16)) := by rw [e2, wu_n (by omega), wr_out (by omega), wu_s]; rfl
  have hr2 : ∀ i, i < 16 → f2 (n + 2 + i) = z9 := fun i hi => by rw [e2, wu_n (by omega), wr_in (by omega) (by omega)]; rfl
  have ho2 : ∀ i, i ≠ b → (i < n + 1 ∨ n + 18 ≤ i) → f2 i = f1 i := fun i h1 h2 => by rw [e2, wu_n h1, wr_out (by omega), wu_n (by omega)]
  show PW _ _ _ _ _ _ (25, [(0, .ref b)], [], (n + 18, wu (wr (wu f1 (n + 1) (.inl (3, 16, .inr (.inr (.inr (.inr (rows_of (n + 1) 16))))))) (n + 1 + 1) (n + 1 + 1 + 16) (.inl (1, 9, .inr (.inl (fun _ => 0))))) b (.inr (1, [.ref n, .ref (n + 1), .null, .int 0, .int 0, .int 0, .int 0]))))
  rw [← e2]
  refine P_aload_n d_Plane_init_25 rfl ?_
  refine P_bipush (v := 8) d_Plane_init_26 (by decide) ?_
  refine P_iconst (v := 3) d_Plane_init_28 (by decide) ?_
  refine P_mnew (N := 8) (K := 3) d_Plane_init_29 L_Plane_17 ac_long ⟨by decide, by decide⟩ ⟨by decide, by decide⟩ (le_b rfl) (le_b rfl) (le_b rfl) (le_b rfl) (by show n + 18 + 1 + 8 ≤ 1000000; omega) ?_
  refine P_putF (i := 2) d_Plane_init_33 ok_Plane (by decide) rfl L_Plane_22 rfl rfl ((wr_out (by show ¬ (n + 18 + 1 ≤ b ∧ b < n + 18 + 1 + 8); omega)).trans ((wu_n (by show b ≠ n + 18; omega)).trans hb2)) (fun _ => rfl) (fun _ => rfl) ?_
  obtain ⟨f3, e3⟩ : ∃ f3, f3 = wu (wr (wu f2 (n + 18) (.inl (3, 8, .inr (.inr (.inr (.inr (rows_of (n + 18) 8))))))) (n + 18 + 1) (n + 18 + 1 + 8) (.inl (1, 3, .inr (.inl (fun _ => 0))))) b (.inr (1, pfs n)) := ⟨_, rfl⟩
  have hb3 : f3 b = .inr (1, pfs n) := by rw [e3]; exact wu_s _ _ _
  have hm3 : f3 (n + 18) = .inl (3, 8, refs (rows_of (n + 18) 8)) := by rw [e3, wu_n (by omega), wr_out (by omega), wu_s]; rfl
  have hr3 : ∀ i, i < 8 → f3 (n + 19 + i) = z3 := fun i hi => by rw [e3, wu_n (by omega), wr_in (by omega) (by omega)]; rfl
  have ho3 : ∀ i, i ≠ b → (i < n + 18 ∨ n + 27 ≤ i) → f3 i = f2 i := fun i h1 h2 => by rw [e3, wu_n h1, wr_out (by omega), wu_n (by omega)]
  show PW _ _ _ _ _ _ (36, [(0, .ref b)], [], (n + 27, wu (wr (wu f2 (n + 18) (.inl (3, 8, .inr (.inr (.inr (.inr (rows_of (n + 18) 8))))))) (n + 18 + 1) (n + 18 + 1 + 8) (.inl (1, 3, .inr (.inl (fun _ => 0))))) b (.inr (1, pfs n))))
  rw [← e3]
  refine P_iconst (v := 0) d_Plane_init_36 (by decide) ?_
  refine P_istore_n d_Plane_init_37 (by decide) rfl ?_
  have hn3 : f3 n = .inl (4, 8, refs (pq n 0)) := by rw [ho3 n (by omega) (by omega), ho2 n (by omega) (by omega)]; exact hn1
  refine plane_loop b n f3 hn hbn _ (fun g g1 g2 g3 g4 => ⟨rfl, g, rfl, fun i h1 h2 => ?_, g1, g2, ?_, fun i hi => ?_, ?_, fun i hi => ?_, g4⟩) 8 0 rfl f3 hb3 hn3 (fun _ _ _ => rfl) (fun i hi => absurd hi (Nat.not_lt_zero i))
  · rw [g3 i (by omega) (by omega), ho3 i h1 (by omega), ho2 i h1 (by omega), ho1 i h1 (by omega)]
  · rw [g3 _ (by omega) (by omega), ho3 _ (by omega) (by omega)]; exact hm2
  · rw [g3 _ (by omega) (by omega), ho3 _ (by omega) (by omega)]; exact hr2 i hi
  · rw [g3 _ (by omega) (by omega)]; exact hm3
  · rw [g3 _ (by omega) (by omega)]; exact hr3 i hi
end
section
/-! the other constructors (by program) -/
def M_Tape_init : pM := (⟨"CornerMaps$Tape", "<init>", "()V"⟩, prog_10_method_1_code, 1, none)
theorem co_Tape_init : CalOK M_Tape_init 0 := ⟨g_at 107 (by decide +kernel) rfl, g_at 4 (by decide +kernel) rfl, by decide +kernel, by decide +kernel, by decide +kernel⟩
theorem pn_Tape_init : plainName M_Tape_init.1.cls = true := by decide +kernel
def M_Maker_init : pM := (⟨"CornerMaps$Maker", "<init>", "()V"⟩, prog_2_method_1_code, 1, none)
theorem co_Maker_init : CalOK M_Maker_init 0 := ⟨g_at 124 (by decide +kernel) rfl, g_at 5 (by decide +kernel) rfl, by decide +kernel, by decide +kernel, by decide +kernel⟩
theorem pn_Maker_init : plainName M_Maker_init.1.cls = true := by decide +kernel
def M_Reader_init : pM := (⟨"CornerMaps$Reader", "<init>", "(LCornerMaps$Tape;LCornerMaps$Maker;LCornerMaps$Plane;)V"⟩, prog_8_method_1_code, 4, none)
theorem co_Reader_init : CalOK M_Reader_init 3 := ⟨g_at 142 (by decide +kernel) rfl, g_at 6 (by decide +kernel) rfl, by decide +kernel, by decide +kernel, by decide +kernel⟩
theorem pn_Reader_init : plainName M_Reader_init.1.cls = true := by decide +kernel
def M_Past_init : pM := (⟨"CornerMaps$Past", "<init>", "()V"⟩, prog_5_method_1_code, 1, none)
theorem co_Past_init : CalOK M_Past_init 0 := ⟨g_at 193 (by decide +kernel) rfl, g_at 7 (by decide +kernel) rfl, by decide +kernel, by decide +kernel, by decide +kernel⟩
theorem pn_Past_init : plainName M_Past_init.1.cls = true := by decide +kernel
def M_Pairs_init : pM := (⟨"CornerMaps$Pairs", "<init>", "()V"⟩, prog_4_method_1_code, 1, none)
theorem co_Pairs_init : CalOK M_Pairs_init 0 := ⟨g_at 217 (by decide +kernel) rfl, g_at 8 (by decide +kernel) rfl, by decide +kernel, by decide +kernel, by decide +kernel⟩
theorem pn_Pairs_init : plainName M_Pairs_init.1.cls = true := by decide +kernel
def M_ASB_init : pM := (⟨"java/lang/AbstractStringBuilder", "<init>", "(I)V"⟩, prog_14_method_2_code, 2, none)
theorem co_ASB_init : CalOK M_ASB_init 1 := ⟨g_at 239 (by decide +kernel) rfl, g_at 9 (by decide +kernel) rfl, by decide +kernel, by decide +kernel, by decide +kernel⟩
theorem pn_ASB_init : plainName M_ASB_init.1.cls = true := by decide +kernel
def M_SB_init : pM := (⟨"java/lang/StringBuilder", "<init>", "()V"⟩, prog_28_method_1_code, 1, none)
theorem co_SB_init : CalOK M_SB_init 0 := ⟨g_at 236 (by decide +kernel) rfl, g_at 10 (by decide +kernel) rfl, by decide +kernel, by decide +kernel, by decide +kernel⟩
theorem pn_SB_init : plainName M_SB_init.1.cls = true := by decide +kernel
def M_CM_init : pM := (⟨"CornerMaps", "<init>", "()V"⟩, prog_1_method_1_code, 1, none)
theorem co_CM_init : CalOK M_CM_init 0 := ⟨g_at 36 (by decide +kernel) rfl, g_at 1 (by decide +kernel) rfl, by decide +kernel, by decide +kernel, by decide +kernel⟩
theorem pn_CM_init : plainName M_CM_init.1.cls = true := by decide +kernel
def M_MD_init : pM := (⟨"CornerMapsModel", "<init>", "()V"⟩, prog_12_method_1_code, 1, none)
theorem co_MD_init : CalOK M_MD_init 0 := ⟨g_at 1495 (by decide +kernel) rfl, g_at 13 (by decide +kernel) rfl, by decide +kernel, by decide +kernel, by decide +kernel⟩
theorem pn_MD_init : plainName M_MD_init.1.cls = true := by decide +kernel
theorem im_ASB_init : Cond.instanceMethod M_ASB_init.1 ∈ gtbl := g_at 238 (by decide +kernel) rfl
theorem im_Tape_init : Cond.instanceMethod M_Tape_init.1 ∈ gtbl := g_at 106 (by decide +kernel) rfl
theorem im_Maker_init : Cond.instanceMethod M_Maker_init.1 ∈ gtbl := g_at 123 (by decide +kernel) rfl
theorem im_Reader_init : Cond.instanceMethod M_Reader_init.1 ∈ gtbl := g_at 141 (by decide +kernel) rfl
theorem im_Past_init : Cond.instanceMethod M_Past_init.1 ∈ gtbl := g_at 192 (by decide +kernel) rfl
theorem im_Pairs_init : Cond.instanceMethod M_Pairs_init.1 ∈ gtbl := g_at 216 (by decide +kernel) rfl
theorem im_SB_init : Cond.instanceMethod M_SB_init.1 ∈ gtbl := g_at 235 (by decide +kernel) rfl
theorem L_Tape_3 : Cond.methodLink "CornerMaps$Tape" 3 ⟨"java/lang/Object", "<init>", "()V"⟩ ∈ gtbl := g_at 108 (by decide +kernel) rfl
theorem L_Tape_9 : Cond.fieldLink "CornerMaps$Tape" 9 "CornerMaps$Tape" "bytes" "[I" ∈ gtbl := g_at 109 (by decide +kernel) rfl
theorem L_Maker_1 : Cond.methodLink "CornerMaps$Maker" 1 ⟨"java/lang/Object", "<init>", "()V"⟩ ∈ gtbl := g_at 125 (by decide +kernel) rfl
theorem L_Maker_7 : Cond.fieldLink "CornerMaps$Maker" 7 "CornerMaps$Maker" "frame" "[J" ∈ gtbl := g_at 128 (by decide +kernel) rfl
theorem L_Maker_13 : Cond.fieldLink "CornerMaps$Maker" 13 "CornerMaps$Maker" "back" "[J" ∈ gtbl := g_at 129 (by decide +kernel) rfl
theorem L_Maker_16 : Cond.classLink "CornerMaps$Maker" 16 "CornerMaps$Quad" ∈ gtbl := g_at 126 (by decide +kernel) rfl
theorem L_Maker_18 : Cond.methodLinkNest "CornerMaps$Maker" 18 ⟨"CornerMaps$Quad", "<init>", "()V"⟩ "CornerMaps" ∈ ntbl := nt_at 127 (by decide +kernel) rfl
theorem L_Maker_19 : Cond.fieldLink "CornerMaps$Maker" 19 "CornerMaps$Maker" "square" "LCornerMaps$Quad;" ∈ gtbl := g_at 130 (by decide +kernel) rfl
theorem L_Reader_3 : Cond.methodLink "CornerMaps$Reader" 3 ⟨"java/lang/Object", "<init>", "()V"⟩ ∈ gtbl := g_at 143 (by decide +kernel) rfl
theorem L_Reader_9 : Cond.fieldLink "CornerMaps$Reader" 9 "CornerMaps$Reader" "quadNames" "[I" ∈ gtbl := g_at 146 (by decide +kernel) rfl
theorem L_Reader_15 : Cond.fieldLink "CornerMaps$Reader" 15 "CornerMaps$Reader" "mapNames" "[I" ∈ gtbl := g_at 147 (by decide +kernel) rfl
theorem L_Reader_18 : Cond.fieldLink "CornerMaps$Reader" 18 "CornerMaps$Reader" "row" "[J" ∈ gtbl := g_at 148 (by decide +kernel) rfl
theorem L_Reader_22 : Cond.fieldLink "CornerMaps$Reader" 22 "CornerMaps$Reader" "madeMap" "[J" ∈ gtbl := g_at 149 (by decide +kernel) rfl
theorem L_Reader_25 : Cond.fieldLink "CornerMaps$Reader" 25 "CornerMaps$Reader" "faultPlace" "I" ∈ gtbl := g_at 158 (by decide +kernel) rfl
theorem L_Reader_29 : Cond.fieldLink "CornerMaps$Reader" 29 "CornerMaps$Reader" "tape" "LCornerMaps$Tape;" ∈ gtbl := g_at 144 (by decide +kernel) rfl
theorem L_Reader_33 : Cond.fieldLink "CornerMaps$Reader" 33 "CornerMaps$Reader" "maker" "LCornerMaps$Maker;" ∈ gtbl := g_at 145 (by decide +kernel) rfl
theorem L_Reader_37 : Cond.fieldLink "CornerMaps$Reader" 37 "CornerMaps$Reader" "plane" "LCornerMaps$Plane;" ∈ gtbl := g_at 150 (by decide +kernel) rfl
theorem L_Past_3 : Cond.methodLink "CornerMaps$Past" 3 ⟨"java/lang/Object", "<init>", "()V"⟩ ∈ gtbl := g_at 194 (by decide +kernel) rfl
theorem L_Past_9 : Cond.fieldLink "CornerMaps$Past" 9 "CornerMaps$Past" "deeds" "[I" ∈ gtbl := g_at 196 (by decide +kernel) rfl
theorem L_Past_15 : Cond.fieldLink "CornerMaps$Past" 15 "CornerMaps$Past" "numbers" "[I" ∈ gtbl := g_at 197 (by decide +kernel) rfl
theorem L_Past_18 : Cond.classLink "CornerMaps$Past" 18 "[[J" ∈ gtbl := g_at 195 (by decide +kernel) rfl
theorem L_Past_20 : Cond.fieldLink "CornerMaps$Past" 20 "CornerMaps$Past" "rows" "[[J" ∈ gtbl := g_at 198 (by decide +kernel) rfl
theorem L_Pairs_3 : Cond.methodLink "CornerMaps$Pairs" 3 ⟨"java/lang/Object", "<init>", "()V"⟩ ∈ gtbl := g_at 218 (by decide +kernel) rfl
theorem L_Pairs_9 : Cond.classLink "CornerMaps$Pairs" 9 "[[J" ∈ gtbl := g_at 219 (by decide +kernel) rfl
theorem L_Pairs_11 : Cond.fieldLink "CornerMaps$Pairs" 11 "CornerMaps$Pairs" "rows" "[[J" ∈ gtbl := g_at 220 (by decide +kernel) rfl
theorem L_ASB_3 : Cond.methodLink "java/lang/AbstractStringBuilder" 3 ⟨"java/lang/Object", "<init>", "()V"⟩ ∈ gtbl := g_at 240 (by decide +kernel) rfl
theorem L_ASB_18 : Cond.fieldLink "java/lang/AbstractStringBuilder" 18 "java/lang/String" "COMPACT_STRINGS" "Z" ∈ gtbl := g_at 241 (by decide +kernel) rfl
theorem L_ASB_15 : Cond.fieldLink "java/lang/AbstractStringBuilder" 15 "java/lang/AbstractStringBuilder" "value" "[B" ∈ gtbl := g_at 250 (by decide +kernel) rfl
theorem L_ASB_22 : Cond.fieldLink "java/lang/AbstractStringBuilder" 22 "java/lang/AbstractStringBuilder" "coder" "B" ∈ gtbl := g_at 251 (by decide +kernel) rfl
theorem L_SB_1 : Cond.methodLink "java/lang/StringBuilder" 1 ⟨"java/lang/AbstractStringBuilder", "<init>", "(I)V"⟩ ∈ gtbl := g_at 237 (by decide +kernel) rfl
theorem L_CM_3 : Cond.methodLink "CornerMaps" 3 ⟨"java/lang/Object", "<init>", "()V"⟩ ∈ gtbl := g_at 37 (by decide +kernel) rfl
theorem L_CM_9 : Cond.classLink "CornerMaps" 9 "CornerMaps$Plane" ∈ gtbl := g_at 40 (by decide +kernel) rfl
theorem L_CM_11 : Cond.methodLink "CornerMaps" 11 ⟨"CornerMaps$Plane", "<init>", "()V"⟩ ∈ gtbl := g_at 42 (by decide +kernel) rfl
theorem L_CM_12 : Cond.fieldLink "CornerMaps" 12 "CornerMaps" "plane" "LCornerMaps$Plane;" ∈ gtbl := g_at 266 (by decide +kernel) rfl
theorem L_CM_18 : Cond.fieldLink "CornerMaps" 18 "CornerMaps" "spare" "LCornerMaps$Plane;" ∈ gtbl := g_at 267 (by decide +kernel) rfl
theorem L_CM_21 : Cond.classLink "CornerMaps" 21 "CornerMaps$Tape" ∈ gtbl := g_at 103 (by decide +kernel) rfl
theorem L_CM_23 : Cond.methodLinkNest "CornerMaps" 23 ⟨"CornerMaps$Tape", "<init>", "()V"⟩ "CornerMaps" ∈ ntbl := nt_at 105 (by decide +kernel) rfl
theorem L_CM_24 : Cond.fieldLink "CornerMaps" 24 "CornerMaps" "tape" "LCornerMaps$Tape;" ∈ gtbl := g_at 268 (by decide +kernel) rfl
theorem L_CM_28 : Cond.classLink "CornerMaps" 28 "CornerMaps$Maker" ∈ gtbl := g_at 120 (by decide +kernel) rfl
theorem L_CM_30 : Cond.methodLinkNest "CornerMaps" 30 ⟨"CornerMaps$Maker", "<init>", "()V"⟩ "CornerMaps" ∈ ntbl := nt_at 122 (by decide +kernel) rfl
theorem L_CM_31 : Cond.fieldLink "CornerMaps" 31 "CornerMaps" "maker" "LCornerMaps$Maker;" ∈ gtbl := g_at 271 (by decide +kernel) rfl
theorem L_CM_35 : Cond.classLink "CornerMaps" 35 "CornerMaps$Reader" ∈ gtbl := g_at 138 (by decide +kernel) rfl
theorem L_CM_37 : Cond.methodLink "CornerMaps" 37 ⟨"CornerMaps$Reader", "<init>", "(LCornerMaps$Tape;LCornerMaps$Maker;LCornerMaps$Plane;)V"⟩ ∈ gtbl := g_at 140 (by decide +kernel) rfl
theorem L_CM_40 : Cond.fieldLink "CornerMaps" 40 "CornerMaps" "reader" "LCornerMaps$Reader;" ∈ gtbl := g_at 269 (by decide +kernel) rfl
theorem L_CM_44 : Cond.classLink "CornerMaps" 44 "CornerMaps$Past" ∈ gtbl := g_at 189 (by decide +kernel) rfl
theorem L_CM_46 : Cond.methodLinkNest "CornerMaps" 46 ⟨"CornerMaps$Past", "<init>", "()V"⟩ "CornerMaps" ∈ ntbl := nt_at 191 (by decide +kernel) rfl
theorem L_CM_47 : Cond.fieldLink "CornerMaps" 47 "CornerMaps" "past" "LCornerMaps$Past;" ∈ gtbl := g_at 270 (by decide +kernel) rfl
theorem L_CM_51 : Cond.classLink "CornerMaps" 51 "CornerMaps$Pairs" ∈ gtbl := g_at 213 (by decide +kernel) rfl
theorem L_CM_53 : Cond.methodLinkNest "CornerMaps" 53 ⟨"CornerMaps$Pairs", "<init>", "()V"⟩ "CornerMaps" ∈ ntbl := nt_at 215 (by decide +kernel) rfl
theorem L_CM_54 : Cond.fieldLink "CornerMaps" 54 "CornerMaps" "products" "LCornerMaps$Pairs;" ∈ gtbl := g_at 272 (by decide +kernel) rfl
theorem L_CM_58 : Cond.classLink "CornerMaps" 58 "java/lang/StringBuilder" ∈ gtbl := g_at 232 (by decide +kernel) rfl
theorem L_CM_60 : Cond.methodLink "CornerMaps" 60 ⟨"java/lang/StringBuilder", "<init>", "()V"⟩ ∈ gtbl := g_at 234 (by decide +kernel) rfl
theorem L_CM_61 : Cond.fieldLink "CornerMaps" 61 "CornerMaps" "spelled" "Ljava/lang/StringBuilder;" ∈ gtbl := g_at 273 (by decide +kernel) rfl
theorem L_CM_65 : Cond.fieldLink "CornerMaps" 65 "CornerMaps" "work" "[J" ∈ gtbl := g_at 274 (by decide +kernel) rfl
theorem L_CM_69 : Cond.fieldLink "CornerMaps" 69 "CornerMaps" "otherWork" "[J" ∈ gtbl := g_at 275 (by decide +kernel) rfl
theorem L_CM_72 : Cond.fieldLink "CornerMaps" 72 "CornerMaps" "risen" "[J" ∈ gtbl := g_at 276 (by decide +kernel) rfl
theorem L_CM_75 : Cond.fieldLink "CornerMaps" 75 "CornerMaps" "given" "[J" ∈ gtbl := g_at 277 (by decide +kernel) rfl
theorem L_CM_78 : Cond.fieldLink "CornerMaps" 78 "CornerMaps" "result" "[J" ∈ gtbl := g_at 278 (by decide +kernel) rfl
theorem L_CM_81 : Cond.fieldLink "CornerMaps" 81 "CornerMaps" "step" "[J" ∈ gtbl := g_at 279 (by decide +kernel) rfl
theorem L_CM_84 : Cond.fieldLink "CornerMaps" 84 "CornerMaps" "firstLine" "[J" ∈ gtbl := g_at 280 (by decide +kernel) rfl
theorem L_CM_87 : Cond.fieldLink "CornerMaps" 87 "CornerMaps" "secondLine" "[J" ∈ gtbl := g_at 281 (by decide +kernel) rfl
theorem L_CM_90 : Cond.classLink "CornerMaps" 90 "[[J" ∈ gtbl := g_at 265 (by decide +kernel) rfl
theorem L_CM_92 : Cond.fieldLink "CornerMaps" 92 "CornerMaps" "moved" "[[J" ∈ gtbl := g_at 282 (by decide +kernel) rfl
theorem L_CM_95 : Cond.fieldLink "CornerMaps" 95 "CornerMaps" "found" "[I" ∈ gtbl := g_at 283 (by decide +kernel) rfl
theorem L_MD_3 : Cond.methodLink "CornerMapsModel" 3 ⟨"java/lang/Object", "<init>", "()V"⟩ ∈ gtbl := g_at 1496 (by decide +kernel) rfl
theorem L_MD_9 : Cond.fieldLink "CornerMapsModel" 9 "CornerMapsModel" "tape" "[I" ∈ gtbl := g_at 1498 (by decide +kernel) rfl
theorem L_MD_15 : Cond.fieldLink "CornerMapsModel" 15 "CornerMapsModel" "quad" "[I" ∈ gtbl := g_at 1500 (by decide +kernel) rfl
theorem L_MD_18 : Cond.fieldLink "CornerMapsModel" 18 "CornerMapsModel" "newQuad" "[I" ∈ gtbl := g_at 1501 (by decide +kernel) rfl
theorem L_MD_21 : Cond.fieldLink "CornerMapsModel" 21 "CornerMapsModel" "now" "[J" ∈ gtbl := g_at 1504 (by decide +kernel) rfl
theorem L_MD_25 : Cond.fieldLink "CornerMapsModel" 25 "CornerMapsModel" "newNow" "[J" ∈ gtbl := g_at 1505 (by decide +kernel) rfl
theorem L_MD_28 : Cond.fieldLink "CornerMapsModel" 28 "CornerMapsModel" "past" "[J" ∈ gtbl := g_at 1506 (by decide +kernel) rfl
theorem L_MD_31 : Cond.fieldLink "CornerMapsModel" 31 "CornerMapsModel" "quadName" "[I" ∈ gtbl := g_at 1510 (by decide +kernel) rfl
theorem L_MD_34 : Cond.fieldLink "CornerMapsModel" 34 "CornerMapsModel" "mapName" "[I" ∈ gtbl := g_at 1511 (by decide +kernel) rfl
theorem L_MD_37 : Cond.fieldLink "CornerMapsModel" 37 "CornerMapsModel" "lastPlace" "I" ∈ gtbl := g_at 1521 (by decide +kernel) rfl
theorem L_MD_41 : Cond.fieldLink "CornerMapsModel" 41 "CornerMapsModel" "nine" "[J" ∈ gtbl := g_at 1522 (by decide +kernel) rfl
theorem L_MD_44 : Cond.fieldLink "CornerMapsModel" 44 "CornerMapsModel" "other" "[J" ∈ gtbl := g_at 1523 (by decide +kernel) rfl
theorem L_MD_47 : Cond.fieldLink "CornerMapsModel" 47 "CornerMapsModel" "third" "[J" ∈ gtbl := g_at 1524 (by decide +kernel) rfl
theorem L_MD_50 : Cond.fieldLink "CornerMapsModel" 50 "CornerMapsModel" "three" "[J" ∈ gtbl := g_at 1525 (by decide +kernel) rfl
theorem L_MD_53 : Cond.fieldLink "CornerMapsModel" 53 "CornerMapsModel" "more" "[J" ∈ gtbl := g_at 1526 (by decide +kernel) rfl
theorem L_MD_56 : Cond.fieldLink "CornerMapsModel" 56 "CornerMapsModel" "pair" "[I" ∈ gtbl := g_at 1527 (by decide +kernel) rfl
theorem L_MD_59 : Cond.fieldLink "CornerMapsModel" 59 "CornerMapsModel" "kept" "[J" ∈ gtbl := g_at 1528 (by decide +kernel) rfl
theorem L_MD_62 : Cond.fieldLink "CornerMapsModel" 62 "CornerMapsModel" "row" "[I" ∈ gtbl := g_at 1529 (by decide +kernel) rfl
theorem L_MD_65 : Cond.fieldLink "CornerMapsModel" 65 "CornerMapsModel" "unlike" "[J" ∈ gtbl := g_at 1531 (by decide +kernel) rfl
theorem L_MD_68 : Cond.fieldLink "CornerMapsModel" 68 "CornerMapsModel" "spelt" "[I" ∈ gtbl := g_at 1533 (by decide +kernel) rfl
theorem L_MD_71 : Cond.fieldLink "CornerMapsModel" 71 "CornerMapsModel" "undone" "I" ∈ gtbl := g_at 1507 (by decide +kernel) rfl
theorem d_Tape_init_0 : decode prog_10_method_1_code 0 = .ok (.aload_n 0, 1) := by decide +kernel
theorem d_Tape_init_1 : decode prog_10_method_1_code 1 = .ok (.invokespecial 3, 3) := by decide +kernel
theorem d_Tape_init_4 : decode prog_10_method_1_code 4 = .ok (.aload_n 0, 1) := by decide +kernel
theorem d_Tape_init_5 : decode prog_10_method_1_code 5 = .ok (.sipush (900), 3) := by decide +kernel
theorem d_Tape_init_8 : decode prog_10_method_1_code 8 = .ok (.newarray .int, 2) := by decide +kernel
theorem d_Tape_init_10 : decode prog_10_method_1_code 10 = .ok (.putfield 9, 3) := by decide +kernel
theorem d_Tape_init_13 : decode prog_10_method_1_code 13 = .ok (.return_, 1) := by decide +kernel
theorem d_Maker_init_0 : decode prog_2_method_1_code 0 = .ok (.aload_n 0, 1) := by decide +kernel
theorem d_Maker_init_1 : decode prog_2_method_1_code 1 = .ok (.invokespecial 1, 3) := by decide +kernel
theorem d_Maker_init_4 : decode prog_2_method_1_code 4 = .ok (.aload_n 0, 1) := by decide +kernel
theorem d_Maker_init_5 : decode prog_2_method_1_code 5 = .ok (.bipush (9), 2) := by decide +kernel
theorem d_Maker_init_7 : decode prog_2_method_1_code 7 = .ok (.newarray .long, 2) := by decide +kernel
theorem d_Maker_init_9 : decode prog_2_method_1_code 9 = .ok (.putfield 7, 3) := by decide +kernel
theorem d_Maker_init_12 : decode prog_2_method_1_code 12 = .ok (.aload_n 0, 1) := by decide +kernel
theorem d_Maker_init_13 : decode prog_2_method_1_code 13 = .ok (.bipush (9), 2) := by decide +kernel
theorem d_Maker_init_15 : decode prog_2_method_1_code 15 = .ok (.newarray .long, 2) := by decide +kernel
theorem d_Maker_init_17 : decode prog_2_method_1_code 17 = .ok (.putfield 13, 3) := by decide +kernel
theorem d_Maker_init_20 : decode prog_2_method_1_code 20 = .ok (.aload_n 0, 1) := by decide +kernel
theorem d_Maker_init_21 : decode prog_2_method_1_code 21 = .ok (.new 16, 3) := by decide +kernel
theorem d_Maker_init_24 : decode prog_2_method_1_code 24 = .ok (.dup, 1) := by decide +kernel
theorem d_Maker_init_25 : decode prog_2_method_1_code 25 = .ok (.invokespecial 18, 3) := by decide +kernel
theorem d_Maker_init_28 : decode prog_2_method_1_code 28 = .ok (.putfield 19, 3) := by decide +kernel
theorem d_Maker_init_31 : decode prog_2_method_1_code 31 = .ok (.return_, 1) := by decide +kernel
theorem d_Reader_init_0 : decode prog_8_method_1_code 0 = .ok (.aload_n 0, 1) := by decide +kernel
theorem d_Reader_init_1 : decode prog_8_method_1_code 1 = .ok (.invokespecial 3, 3) := by decide +kernel
theorem d_Reader_init_4 : decode prog_8_method_1_code 4 = .ok (.aload_n 0, 1) := by decide +kernel
theorem d_Reader_init_5 : decode prog_8_method_1_code 5 = .ok (.bipush (8), 2) := by decide +kernel
theorem d_Reader_init_7 : decode prog_8_method_1_code 7 = .ok (.newarray .int, 2) := by decide +kernel
theorem d_Reader_init_9 : decode prog_8_method_1_code 9 = .ok (.putfield 9, 3) := by decide +kernel
theorem d_Reader_init_12 : decode prog_8_method_1_code 12 = .ok (.aload_n 0, 1) := by decide +kernel
theorem d_Reader_init_13 : decode prog_8_method_1_code 13 = .ok (.bipush (8), 2) := by decide +kernel
theorem d_Reader_init_15 : decode prog_8_method_1_code 15 = .ok (.newarray .int, 2) := by decide +kernel
theorem d_Reader_init_17 : decode prog_8_method_1_code 17 = .ok (.putfield 15, 3) := by decide +kernel
theorem d_Reader_init_20 : decode prog_8_method_1_code 20 = .ok (.aload_n 0, 1) := by decide +kernel
theorem d_Reader_init_21 : decode prog_8_method_1_code 21 = .ok (.iconst 3, 1) := by decide +kernel
theorem d_Reader_init_22 : decode prog_8_method_1_code 22 = .ok (.newarray .long, 2) := by decide +kernel
theorem d_Reader_init_24 : decode prog_8_method_1_code 24 = .ok (.putfield 18, 3) := by decide +kernel
theorem d_Reader_init_27 : decode prog_8_method_1_code 27 = .ok (.aload_n 0, 1) := by decide +kernel
theorem d_Reader_init_28 : decode prog_8_method_1_code 28 = .ok (.bipush (9), 2) := by decide +kernel
theorem d_Reader_init_30 : decode prog_8_method_1_code 30 = .ok (.newarray .long, 2) := by decide +kernel
theorem d_Reader_init_32 : decode prog_8_method_1_code 32 = .ok (.putfield 22, 3) := by decide +kernel
theorem d_Reader_init_35 : decode prog_8_method_1_code 35 = .ok (.aload_n 0, 1) := by decide +kernel
theorem d_Reader_init_36 : decode prog_8_method_1_code 36 = .ok (.iconst (-1), 1) := by decide +kernel
theorem d_Reader_init_37 : decode prog_8_method_1_code 37 = .ok (.putfield 25, 3) := by decide +kernel
theorem d_Reader_init_40 : decode prog_8_method_1_code 40 = .ok (.aload_n 0, 1) := by decide +kernel
theorem d_Reader_init_41 : decode prog_8_method_1_code 41 = .ok (.aload_n 1, 1) := by decide +kernel
theorem d_Reader_init_42 : decode prog_8_method_1_code 42 = .ok (.putfield 29, 3) := by decide +kernel
theorem d_Reader_init_45 : decode prog_8_method_1_code 45 = .ok (.aload_n 0, 1) := by decide +kernel
theorem d_Reader_init_46 : decode prog_8_method_1_code 46 = .ok (.aload_n 2, 1) := by decide +kernel
theorem d_Reader_init_47 : decode prog_8_method_1_code 47 = .ok (.putfield 33, 3) := by decide +kernel
theorem d_Reader_init_50 : decode prog_8_method_1_code 50 = .ok (.aload_n 0, 1) := by decide +kernel
theorem d_Reader_init_51 : decode prog_8_method_1_code 51 = .ok (.aload_n 3, 1) := by decide +kernel
theorem d_Reader_init_52 : decode prog_8_method_1_code 52 = .ok (.putfield 37, 3) := by decide +kernel
theorem d_Reader_init_55 : decode prog_8_method_1_code 55 = .ok (.return_, 1) := by decide +kernel
theorem d_Past_init_0 : decode prog_5_method_1_code 0 = .ok (.aload_n 0, 1) := by decide +kernel
theorem d_Past_init_1 : decode prog_5_method_1_code 1 = .ok (.invokespecial 3, 3) := by decide +kernel
theorem d_Past_init_4 : decode prog_5_method_1_code 4 = .ok (.aload_n 0, 1) := by decide +kernel
theorem d_Past_init_5 : decode prog_5_method_1_code 5 = .ok (.bipush (16), 2) := by decide +kernel
theorem d_Past_init_7 : decode prog_5_method_1_code 7 = .ok (.newarray .int, 2) := by decide +kernel
theorem d_Past_init_9 : decode prog_5_method_1_code 9 = .ok (.putfield 9, 3) := by decide +kernel
theorem d_Past_init_12 : decode prog_5_method_1_code 12 = .ok (.aload_n 0, 1) := by decide +kernel
theorem d_Past_init_13 : decode prog_5_method_1_code 13 = .ok (.bipush (16), 2) := by decide +kernel
theorem d_Past_init_15 : decode prog_5_method_1_code 15 = .ok (.newarray .int, 2) := by decide +kernel
theorem d_Past_init_17 : decode prog_5_method_1_code 17 = .ok (.putfield 15, 3) := by decide +kernel
theorem d_Past_init_20 : decode prog_5_method_1_code 20 = .ok (.aload_n 0, 1) := by decide +kernel
theorem d_Past_init_21 : decode prog_5_method_1_code 21 = .ok (.bipush (16), 2) := by decide +kernel
theorem d_Past_init_23 : decode prog_5_method_1_code 23 = .ok (.bipush (24), 2) := by decide +kernel
theorem d_Past_init_25 : decode prog_5_method_1_code 25 = .ok (.multianewarray 18 2, 4) := by decide +kernel
theorem d_Past_init_29 : decode prog_5_method_1_code 29 = .ok (.putfield 20, 3) := by decide +kernel
theorem d_Past_init_32 : decode prog_5_method_1_code 32 = .ok (.return_, 1) := by decide +kernel
theorem d_Pairs_init_0 : decode prog_4_method_1_code 0 = .ok (.aload_n 0, 1) := by decide +kernel
theorem d_Pairs_init_1 : decode prog_4_method_1_code 1 = .ok (.invokespecial 3, 3) := by decide +kernel
theorem d_Pairs_init_4 : decode prog_4_method_1_code 4 = .ok (.aload_n 0, 1) := by decide +kernel
theorem d_Pairs_init_5 : decode prog_4_method_1_code 5 = .ok (.sipush (256), 3) := by decide +kernel
theorem d_Pairs_init_8 : decode prog_4_method_1_code 8 = .ok (.bipush (9), 2) := by decide +kernel
theorem d_Pairs_init_10 : decode prog_4_method_1_code 10 = .ok (.multianewarray 9 2, 4) := by decide +kernel
theorem d_Pairs_init_14 : decode prog_4_method_1_code 14 = .ok (.putfield 11, 3) := by decide +kernel
theorem d_Pairs_init_17 : decode prog_4_method_1_code 17 = .ok (.return_, 1) := by decide +kernel
theorem d_ASB_init_0 : decode prog_14_method_2_code 0 = .ok (.aload_n 0, 1) := by decide +kernel
theorem d_ASB_init_1 : decode prog_14_method_2_code 1 = .ok (.invokespecial 3, 3) := by decide +kernel
theorem d_ASB_init_4 : decode prog_14_method_2_code 4 = .ok (.getstatic 18, 3) := by decide +kernel
theorem d_ASB_init_7 : decode prog_14_method_2_code 7 = .ok (.ifCond .eq (18), 3) := by decide +kernel
theorem d_ASB_init_10 : decode prog_14_method_2_code 10 = .ok (.aload_n 0, 1) := by decide +kernel
theorem d_ASB_init_11 : decode prog_14_method_2_code 11 = .ok (.iload_n 1, 1) := by decide +kernel
theorem d_ASB_init_12 : decode prog_14_method_2_code 12 = .ok (.newarray .byte, 2) := by decide +kernel
theorem d_ASB_init_14 : decode prog_14_method_2_code 14 = .ok (.putfield 15, 3) := by decide +kernel
theorem d_ASB_init_17 : decode prog_14_method_2_code 17 = .ok (.aload_n 0, 1) := by decide +kernel
theorem d_ASB_init_18 : decode prog_14_method_2_code 18 = .ok (.iconst 0, 1) := by decide +kernel
theorem d_ASB_init_19 : decode prog_14_method_2_code 19 = .ok (.putfield 22, 3) := by decide +kernel
theorem d_ASB_init_22 : decode prog_14_method_2_code 22 = .ok (.goto (16), 3) := by decide +kernel
theorem d_ASB_init_38 : decode prog_14_method_2_code 38 = .ok (.return_, 1) := by decide +kernel
theorem d_SB_init_0 : decode prog_28_method_1_code 0 = .ok (.aload_n 0, 1) := by decide +kernel
theorem d_SB_init_1 : decode prog_28_method_1_code 1 = .ok (.bipush (16), 2) := by decide +kernel
theorem d_SB_init_3 : decode prog_28_method_1_code 3 = .ok (.invokespecial 1, 3) := by decide +kernel
theorem d_SB_init_6 : decode prog_28_method_1_code 6 = .ok (.return_, 1) := by decide +kernel
theorem d_CM_init_0 : decode prog_1_method_1_code 0 = .ok (.aload_n 0, 1) := by decide +kernel
theorem d_CM_init_1 : decode prog_1_method_1_code 1 = .ok (.invokespecial 3, 3) := by decide +kernel
theorem d_CM_init_4 : decode prog_1_method_1_code 4 = .ok (.aload_n 0, 1) := by decide +kernel
theorem d_CM_init_5 : decode prog_1_method_1_code 5 = .ok (.new 9, 3) := by decide +kernel
theorem d_CM_init_8 : decode prog_1_method_1_code 8 = .ok (.dup, 1) := by decide +kernel
theorem d_CM_init_9 : decode prog_1_method_1_code 9 = .ok (.invokespecial 11, 3) := by decide +kernel
theorem d_CM_init_12 : decode prog_1_method_1_code 12 = .ok (.putfield 12, 3) := by decide +kernel
theorem d_CM_init_15 : decode prog_1_method_1_code 15 = .ok (.aload_n 0, 1) := by decide +kernel
theorem d_CM_init_16 : decode prog_1_method_1_code 16 = .ok (.new 9, 3) := by decide +kernel
theorem d_CM_init_19 : decode prog_1_method_1_code 19 = .ok (.dup, 1) := by decide +kernel
theorem d_CM_init_20 : decode prog_1_method_1_code 20 = .ok (.invokespecial 11, 3) := by decide +kernel
theorem d_CM_init_23 : decode prog_1_method_1_code 23 = .ok (.putfield 18, 3) := by decide +kernel
theorem d_CM_init_26 : decode prog_1_method_1_code 26 = .ok (.aload_n 0, 1) := by decide +kernel
theorem d_CM_init_27 : decode prog_1_method_1_code 27 = .ok (.new 21, 3) := by decide +kernel
theorem d_CM_init_30 : decode prog_1_method_1_code 30 = .ok (.dup, 1) := by decide +kernel
theorem d_CM_init_31 : decode prog_1_method_1_code 31 = .ok (.invokespecial 23, 3) := by decide +kernel
theorem d_CM_init_34 : decode prog_1_method_1_code 34 = .ok (.putfield 24, 3) := by decide +kernel
theorem d_CM_init_37 : decode prog_1_method_1_code 37 = .ok (.aload_n 0, 1) := by decide +kernel
theorem d_CM_init_38 : decode prog_1_method_1_code 38 = .ok (.new 28, 3) := by decide +kernel
theorem d_CM_init_41 : decode prog_1_method_1_code 41 = .ok (.dup, 1) := by decide +kernel
theorem d_CM_init_42 : decode prog_1_method_1_code 42 = .ok (.invokespecial 30, 3) := by decide +kernel
theorem d_CM_init_45 : decode prog_1_method_1_code 45 = .ok (.putfield 31, 3) := by decide +kernel
theorem d_CM_init_48 : decode prog_1_method_1_code 48 = .ok (.aload_n 0, 1) := by decide +kernel
theorem d_CM_init_49 : decode prog_1_method_1_code 49 = .ok (.new 35, 3) := by decide +kernel
theorem d_CM_init_52 : decode prog_1_method_1_code 52 = .ok (.dup, 1) := by decide +kernel
theorem d_CM_init_53 : decode prog_1_method_1_code 53 = .ok (.aload_n 0, 1) := by decide +kernel
theorem d_CM_init_54 : decode prog_1_method_1_code 54 = .ok (.getfield 24, 3) := by decide +kernel
theorem d_CM_init_57 : decode prog_1_method_1_code 57 = .ok (.aload_n 0, 1) := by decide +kernel
theorem d_CM_init_58 : decode prog_1_method_1_code 58 = .ok (.getfield 31, 3) := by decide +kernel
theorem d_CM_init_61 : decode prog_1_method_1_code 61 = .ok (.aload_n 0, 1) := by decide +kernel
theorem d_CM_init_62 : decode prog_1_method_1_code 62 = .ok (.getfield 18, 3) := by decide +kernel
theorem d_CM_init_65 : decode prog_1_method_1_code 65 = .ok (.invokespecial 37, 3) := by decide +kernel
theorem d_CM_init_68 : decode prog_1_method_1_code 68 = .ok (.putfield 40, 3) := by decide +kernel
theorem d_CM_init_71 : decode prog_1_method_1_code 71 = .ok (.aload_n 0, 1) := by decide +kernel
theorem d_CM_init_72 : decode prog_1_method_1_code 72 = .ok (.new 44, 3) := by decide +kernel
theorem d_CM_init_75 : decode prog_1_method_1_code 75 = .ok (.dup, 1) := by decide +kernel
theorem d_CM_init_76 : decode prog_1_method_1_code 76 = .ok (.invokespecial 46, 3) := by decide +kernel
theorem d_CM_init_79 : decode prog_1_method_1_code 79 = .ok (.putfield 47, 3) := by decide +kernel
theorem d_CM_init_82 : decode prog_1_method_1_code 82 = .ok (.aload_n 0, 1) := by decide +kernel
theorem d_CM_init_83 : decode prog_1_method_1_code 83 = .ok (.new 51, 3) := by decide +kernel
theorem d_CM_init_86 : decode prog_1_method_1_code 86 = .ok (.dup, 1) := by decide +kernel
theorem d_CM_init_87 : decode prog_1_method_1_code 87 = .ok (.invokespecial 53, 3) := by decide +kernel
theorem d_CM_init_90 : decode prog_1_method_1_code 90 = .ok (.putfield 54, 3) := by decide +kernel
theorem d_CM_init_93 : decode prog_1_method_1_code 93 = .ok (.aload_n 0, 1) := by decide +kernel
theorem d_CM_init_94 : decode prog_1_method_1_code 94 = .ok (.new 58, 3) := by decide +kernel
theorem d_CM_init_97 : decode prog_1_method_1_code 97 = .ok (.dup, 1) := by decide +kernel
theorem d_CM_init_98 : decode prog_1_method_1_code 98 = .ok (.invokespecial 60, 3) := by decide +kernel
theorem d_CM_init_101 : decode prog_1_method_1_code 101 = .ok (.putfield 61, 3) := by decide +kernel
theorem d_CM_init_104 : decode prog_1_method_1_code 104 = .ok (.aload_n 0, 1) := by decide +kernel
theorem d_CM_init_105 : decode prog_1_method_1_code 105 = .ok (.bipush (9), 2) := by decide +kernel
theorem d_CM_init_107 : decode prog_1_method_1_code 107 = .ok (.newarray .long, 2) := by decide +kernel
theorem d_CM_init_109 : decode prog_1_method_1_code 109 = .ok (.putfield 65, 3) := by decide +kernel
theorem d_CM_init_112 : decode prog_1_method_1_code 112 = .ok (.aload_n 0, 1) := by decide +kernel
theorem d_CM_init_113 : decode prog_1_method_1_code 113 = .ok (.bipush (9), 2) := by decide +kernel
theorem d_CM_init_115 : decode prog_1_method_1_code 115 = .ok (.newarray .long, 2) := by decide +kernel
theorem d_CM_init_117 : decode prog_1_method_1_code 117 = .ok (.putfield 69, 3) := by decide +kernel
theorem d_CM_init_120 : decode prog_1_method_1_code 120 = .ok (.aload_n 0, 1) := by decide +kernel
theorem d_CM_init_121 : decode prog_1_method_1_code 121 = .ok (.bipush (9), 2) := by decide +kernel
theorem d_CM_init_123 : decode prog_1_method_1_code 123 = .ok (.newarray .long, 2) := by decide +kernel
theorem d_CM_init_125 : decode prog_1_method_1_code 125 = .ok (.putfield 72, 3) := by decide +kernel
theorem d_CM_init_128 : decode prog_1_method_1_code 128 = .ok (.aload_n 0, 1) := by decide +kernel
theorem d_CM_init_129 : decode prog_1_method_1_code 129 = .ok (.iconst 3, 1) := by decide +kernel
theorem d_CM_init_130 : decode prog_1_method_1_code 130 = .ok (.newarray .long, 2) := by decide +kernel
theorem d_CM_init_132 : decode prog_1_method_1_code 132 = .ok (.putfield 75, 3) := by decide +kernel
theorem d_CM_init_135 : decode prog_1_method_1_code 135 = .ok (.aload_n 0, 1) := by decide +kernel
theorem d_CM_init_136 : decode prog_1_method_1_code 136 = .ok (.iconst 3, 1) := by decide +kernel
theorem d_CM_init_137 : decode prog_1_method_1_code 137 = .ok (.newarray .long, 2) := by decide +kernel
theorem d_CM_init_139 : decode prog_1_method_1_code 139 = .ok (.putfield 78, 3) := by decide +kernel
theorem d_CM_init_142 : decode prog_1_method_1_code 142 = .ok (.aload_n 0, 1) := by decide +kernel
theorem d_CM_init_143 : decode prog_1_method_1_code 143 = .ok (.iconst 3, 1) := by decide +kernel
theorem d_CM_init_144 : decode prog_1_method_1_code 144 = .ok (.newarray .long, 2) := by decide +kernel
theorem d_CM_init_146 : decode prog_1_method_1_code 146 = .ok (.putfield 81, 3) := by decide +kernel
theorem d_CM_init_149 : decode prog_1_method_1_code 149 = .ok (.aload_n 0, 1) := by decide +kernel
theorem d_CM_init_150 : decode prog_1_method_1_code 150 = .ok (.iconst 3, 1) := by decide +kernel
theorem d_CM_init_151 : decode prog_1_method_1_code 151 = .ok (.newarray .long, 2) := by decide +kernel
theorem d_CM_init_153 : decode prog_1_method_1_code 153 = .ok (.putfield 84, 3) := by decide +kernel
theorem d_CM_init_156 : decode prog_1_method_1_code 156 = .ok (.aload_n 0, 1) := by decide +kernel
theorem d_CM_init_157 : decode prog_1_method_1_code 157 = .ok (.iconst 3, 1) := by decide +kernel
theorem d_CM_init_158 : decode prog_1_method_1_code 158 = .ok (.newarray .long, 2) := by decide +kernel
theorem d_CM_init_160 : decode prog_1_method_1_code 160 = .ok (.putfield 87, 3) := by decide +kernel
theorem d_CM_init_163 : decode prog_1_method_1_code 163 = .ok (.aload_n 0, 1) := by decide +kernel
theorem d_CM_init_164 : decode prog_1_method_1_code 164 = .ok (.bipush (8), 2) := by decide +kernel
theorem d_CM_init_166 : decode prog_1_method_1_code 166 = .ok (.iconst 3, 1) := by decide +kernel
theorem d_CM_init_167 : decode prog_1_method_1_code 167 = .ok (.multianewarray 90 2, 4) := by decide +kernel
theorem d_CM_init_171 : decode prog_1_method_1_code 171 = .ok (.putfield 92, 3) := by decide +kernel
theorem d_CM_init_174 : decode prog_1_method_1_code 174 = .ok (.aload_n 0, 1) := by decide +kernel
theorem d_CM_init_175 : decode prog_1_method_1_code 175 = .ok (.iconst 3, 1) := by decide +kernel
theorem d_CM_init_176 : decode prog_1_method_1_code 176 = .ok (.newarray .int, 2) := by decide +kernel
theorem d_CM_init_178 : decode prog_1_method_1_code 178 = .ok (.putfield 95, 3) := by decide +kernel
theorem d_CM_init_181 : decode prog_1_method_1_code 181 = .ok (.return_, 1) := by decide +kernel
theorem d_MD_init_0 : decode prog_12_method_1_code 0 = .ok (.aload_n 0, 1) := by decide +kernel
theorem d_MD_init_1 : decode prog_12_method_1_code 1 = .ok (.invokespecial 3, 3) := by decide +kernel
theorem d_MD_init_4 : decode prog_12_method_1_code 4 = .ok (.aload_n 0, 1) := by decide +kernel
theorem d_MD_init_5 : decode prog_12_method_1_code 5 = .ok (.sipush (900), 3) := by decide +kernel
theorem d_MD_init_8 : decode prog_12_method_1_code 8 = .ok (.newarray .int, 2) := by decide +kernel
theorem d_MD_init_10 : decode prog_12_method_1_code 10 = .ok (.putfield 9, 3) := by decide +kernel
theorem d_MD_init_13 : decode prog_12_method_1_code 13 = .ok (.aload_n 0, 1) := by decide +kernel
theorem d_MD_init_14 : decode prog_12_method_1_code 14 = .ok (.bipush (64), 2) := by decide +kernel
theorem d_MD_init_16 : decode prog_12_method_1_code 16 = .ok (.newarray .int, 2) := by decide +kernel
theorem d_MD_init_18 : decode prog_12_method_1_code 18 = .ok (.putfield 15, 3) := by decide +kernel
theorem d_MD_init_21 : decode prog_12_method_1_code 21 = .ok (.aload_n 0, 1) := by decide +kernel
theorem d_MD_init_22 : decode prog_12_method_1_code 22 = .ok (.bipush (64), 2) := by decide +kernel
theorem d_MD_init_24 : decode prog_12_method_1_code 24 = .ok (.newarray .int, 2) := by decide +kernel
theorem d_MD_init_26 : decode prog_12_method_1_code 26 = .ok (.putfield 18, 3) := by decide +kernel
theorem d_MD_init_29 : decode prog_12_method_1_code 29 = .ok (.aload_n 0, 1) := by decide +kernel
theorem d_MD_init_30 : decode prog_12_method_1_code 30 = .ok (.sipush (170), 3) := by decide +kernel
theorem d_MD_init_33 : decode prog_12_method_1_code 33 = .ok (.newarray .long, 2) := by decide +kernel
theorem d_MD_init_35 : decode prog_12_method_1_code 35 = .ok (.putfield 21, 3) := by decide +kernel
theorem d_MD_init_38 : decode prog_12_method_1_code 38 = .ok (.aload_n 0, 1) := by decide +kernel
theorem d_MD_init_39 : decode prog_12_method_1_code 39 = .ok (.sipush (170), 3) := by decide +kernel
theorem d_MD_init_42 : decode prog_12_method_1_code 42 = .ok (.newarray .long, 2) := by decide +kernel
theorem d_MD_init_44 : decode prog_12_method_1_code 44 = .ok (.putfield 25, 3) := by decide +kernel
theorem d_MD_init_47 : decode prog_12_method_1_code 47 = .ok (.aload_n 0, 1) := by decide +kernel
theorem d_MD_init_48 : decode prog_12_method_1_code 48 = .ok (.sipush (2720), 3) := by decide +kernel
theorem d_MD_init_51 : decode prog_12_method_1_code 51 = .ok (.newarray .long, 2) := by decide +kernel
theorem d_MD_init_53 : decode prog_12_method_1_code 53 = .ok (.putfield 28, 3) := by decide +kernel
theorem d_MD_init_56 : decode prog_12_method_1_code 56 = .ok (.aload_n 0, 1) := by decide +kernel
theorem d_MD_init_57 : decode prog_12_method_1_code 57 = .ok (.bipush (8), 2) := by decide +kernel
theorem d_MD_init_59 : decode prog_12_method_1_code 59 = .ok (.newarray .int, 2) := by decide +kernel
theorem d_MD_init_61 : decode prog_12_method_1_code 61 = .ok (.putfield 31, 3) := by decide +kernel
theorem d_MD_init_64 : decode prog_12_method_1_code 64 = .ok (.aload_n 0, 1) := by decide +kernel
theorem d_MD_init_65 : decode prog_12_method_1_code 65 = .ok (.bipush (8), 2) := by decide +kernel
theorem d_MD_init_67 : decode prog_12_method_1_code 67 = .ok (.newarray .int, 2) := by decide +kernel
theorem d_MD_init_69 : decode prog_12_method_1_code 69 = .ok (.putfield 34, 3) := by decide +kernel
theorem d_MD_init_72 : decode prog_12_method_1_code 72 = .ok (.aload_n 0, 1) := by decide +kernel
theorem d_MD_init_73 : decode prog_12_method_1_code 73 = .ok (.iconst (-1), 1) := by decide +kernel
theorem d_MD_init_74 : decode prog_12_method_1_code 74 = .ok (.putfield 37, 3) := by decide +kernel
theorem d_MD_init_77 : decode prog_12_method_1_code 77 = .ok (.aload_n 0, 1) := by decide +kernel
theorem d_MD_init_78 : decode prog_12_method_1_code 78 = .ok (.bipush (9), 2) := by decide +kernel
theorem d_MD_init_80 : decode prog_12_method_1_code 80 = .ok (.newarray .long, 2) := by decide +kernel
theorem d_MD_init_82 : decode prog_12_method_1_code 82 = .ok (.putfield 41, 3) := by decide +kernel
theorem d_MD_init_85 : decode prog_12_method_1_code 85 = .ok (.aload_n 0, 1) := by decide +kernel
theorem d_MD_init_86 : decode prog_12_method_1_code 86 = .ok (.bipush (9), 2) := by decide +kernel
theorem d_MD_init_88 : decode prog_12_method_1_code 88 = .ok (.newarray .long, 2) := by decide +kernel
theorem d_MD_init_90 : decode prog_12_method_1_code 90 = .ok (.putfield 44, 3) := by decide +kernel
theorem d_MD_init_93 : decode prog_12_method_1_code 93 = .ok (.aload_n 0, 1) := by decide +kernel
theorem d_MD_init_94 : decode prog_12_method_1_code 94 = .ok (.bipush (9), 2) := by decide +kernel
theorem d_MD_init_96 : decode prog_12_method_1_code 96 = .ok (.newarray .long, 2) := by decide +kernel
theorem d_MD_init_98 : decode prog_12_method_1_code 98 = .ok (.putfield 47, 3) := by decide +kernel
theorem d_MD_init_101 : decode prog_12_method_1_code 101 = .ok (.aload_n 0, 1) := by decide +kernel
theorem d_MD_init_102 : decode prog_12_method_1_code 102 = .ok (.iconst 3, 1) := by decide +kernel
theorem d_MD_init_103 : decode prog_12_method_1_code 103 = .ok (.newarray .long, 2) := by decide +kernel
theorem d_MD_init_105 : decode prog_12_method_1_code 105 = .ok (.putfield 50, 3) := by decide +kernel
theorem d_MD_init_108 : decode prog_12_method_1_code 108 = .ok (.aload_n 0, 1) := by decide +kernel
theorem d_MD_init_109 : decode prog_12_method_1_code 109 = .ok (.iconst 3, 1) := by decide +kernel
theorem d_MD_init_110 : decode prog_12_method_1_code 110 = .ok (.newarray .long, 2) := by decide +kernel
theorem d_MD_init_112 : decode prog_12_method_1_code 112 = .ok (.putfield 53, 3) := by decide +kernel
theorem d_MD_init_115 : decode prog_12_method_1_code 115 = .ok (.aload_n 0, 1) := by decide +kernel
theorem d_MD_init_116 : decode prog_12_method_1_code 116 = .ok (.bipush (16), 2) := by decide +kernel
theorem d_MD_init_118 : decode prog_12_method_1_code 118 = .ok (.newarray .int, 2) := by decide +kernel
theorem d_MD_init_120 : decode prog_12_method_1_code 120 = .ok (.putfield 56, 3) := by decide +kernel
theorem d_MD_init_123 : decode prog_12_method_1_code 123 = .ok (.aload_n 0, 1) := by decide +kernel
theorem d_MD_init_124 : decode prog_12_method_1_code 124 = .ok (.bipush (9), 2) := by decide +kernel
theorem d_MD_init_126 : decode prog_12_method_1_code 126 = .ok (.newarray .long, 2) := by decide +kernel
theorem d_MD_init_128 : decode prog_12_method_1_code 128 = .ok (.putfield 59, 3) := by decide +kernel
theorem d_MD_init_131 : decode prog_12_method_1_code 131 = .ok (.aload_n 0, 1) := by decide +kernel
theorem d_MD_init_132 : decode prog_12_method_1_code 132 = .ok (.iconst 3, 1) := by decide +kernel
theorem d_MD_init_133 : decode prog_12_method_1_code 133 = .ok (.newarray .int, 2) := by decide +kernel
theorem d_MD_init_135 : decode prog_12_method_1_code 135 = .ok (.putfield 62, 3) := by decide +kernel
theorem d_MD_init_138 : decode prog_12_method_1_code 138 = .ok (.aload_n 0, 1) := by decide +kernel
theorem d_MD_init_139 : decode prog_12_method_1_code 139 = .ok (.sipush (2448), 3) := by decide +kernel
theorem d_MD_init_142 : decode prog_12_method_1_code 142 = .ok (.newarray .long, 2) := by decide +kernel
theorem d_MD_init_144 : decode prog_12_method_1_code 144 = .ok (.putfield 65, 3) := by decide +kernel
theorem d_MD_init_147 : decode prog_12_method_1_code 147 = .ok (.aload_n 0, 1) := by decide +kernel
theorem d_MD_init_148 : decode prog_12_method_1_code 148 = .ok (.bipush (108), 2) := by decide +kernel
theorem d_MD_init_150 : decode prog_12_method_1_code 150 = .ok (.newarray .int, 2) := by decide +kernel
theorem d_MD_init_152 : decode prog_12_method_1_code 152 = .ok (.putfield 68, 3) := by decide +kernel
theorem d_MD_init_155 : decode prog_12_method_1_code 155 = .ok (.aload_n 0, 1) := by decide +kernel
theorem d_MD_init_156 : decode prog_12_method_1_code 156 = .ok (.iconst 0, 1) := by decide +kernel
theorem d_MD_init_157 : decode prog_12_method_1_code 157 = .ok (.putfield 71, 3) := by decide +kernel
theorem d_MD_init_160 : decode prog_12_method_1_code 160 = .ok (.return_, 1) := by decide +kernel
set_option maxRecDepth 20000 in
theorem c_Tape_init {G : pG} (f : Nat → pE) (h153 : f 153 = .inr (2, [.null, .int 0])) : PM G M_Tape_init 1 1 900 [.ref 153] (154, f) (fun r w' => r = none ∧ ∃ g : Nat → pE, w' = (155, g) ∧ (∀ i, i ≠ 153 → (i < 154 ∨ 155 ≤ i) → g i = f i) ∧ (g 154 = .inl (0, 900, .inl (fun _ => 0))) ∧ (g 153 = .inr (2, [.ref 154, .int 0]))) := by
  refine PM_of (by decide) (le_b rfl) ?_
  show PW _ _ _ _ _ _ (0, [(0, .ref 153)], [], (154, f))
  refine P_aload_n d_Tape_init_0 rfl ?_
  refine P_objInit d_Tape_init_1 L_Tape_3 im_objInit cd_objInit ⟨le_b rfl, le_b rfl⟩ (le_b rfl) ?_
  refine P_aload_n d_Tape_init_4 rfl ?_
  refine P_sipush (v := 900) d_Tape_init_5 (by decide) ?_
  refine P_newarr (t := 0) (N := 900) (a0 := (900, .inl (fun _ => 0))) d_Tape_init_8 rfl (by decide) ac_int ⟨by decide, by decide⟩ (le_b rfl) ⟨rfl, fun _ _ => rfl⟩ (le_b rfl) (le_b rfl) (le_b rfl) ?_
  obtain ⟨f1, e1⟩ : ∃ f1 : Nat → pE, f1 = wu f 154 (.inl (0, 900, .inl (fun _ => 0))) := ⟨_, rfl⟩
  have h153 : f1 153 = .inr (2, [.null, .int 0]) := by rw [e1]; exact (wu_n (by decide)).trans h153
  have h154 : f1 154 = .inl (0, 900, .inl (fun _ => 0)) := by rw [e1]; exact wu_s _ _ _
  have o1 : ∀ i, (i < 154 ∨ 155 ≤ i) → f1 i = f i := fun i h1 => by rw [e1]; exact wu_n (by omega)
  show PW _ _ _ _ _ _ (10, [(0, .ref 153)], [.ref 154, .ref 153], (155, wu f 154 (.inl (0, 900, .inl (fun _ => 0)))))
  rw [← e1]
  refine P_putF (i := 0) d_Tape_init_10 ok_Tape (by decide) rfl L_Tape_9 rfl rfl h153 (fun _ => rfl) (fun _ => rfl) ?_
  obtain ⟨f2, e2⟩ : ∃ f2 : Nat → pE, f2 = wu f1 153 (.inr (2, [.ref 154, .int 0])) := ⟨_, rfl⟩
  have h154 : f2 154 = .inl (0, 900, .inl (fun _ => 0)) := by rw [e2]; exact (wu_n (by decide)).trans h154
  have h153 : f2 153 = .inr (2, [.ref 154, .int 0]) := by rw [e2]; exact wu_s _ _ _
  have o2 : ∀ i, (i < 153 ∨ 154 ≤ i) → f2 i = f1 i := fun i h1 => by rw [e2]; exact wu_n (by omega)
  show PW _ _ _ _ _ _ (13, [(0, .ref 153)], [], (155, wu f1 153 (.inr (2, [.ref 154, .int 0]))))
  rw [← e2]
  exact P_vret d_Tape_init_13 rfl (le_b rfl) (le_b rfl) ⟨rfl, f2, rfl, fun i h1 h2 => by rw [o2 i (by omega), o1 i (by omega)], h154, h153⟩
set_option maxRecDepth 20000 in
theorem c_Maker_init {G : pG} (f : Nat → pE) (h155 : f 155 = .inr (3, [.null, .null, .null])) : PM G M_Maker_init 2 8 35 [.ref 155] (156, f) (fun r w' => r = none ∧ ∃ g : Nat → pE, w' = (164, g) ∧ (∀ i, i ≠ 155 → (i < 156 ∨ 164 ≤ i) → g i = f i) ∧ (g 156 = .inl (1, 9, .inr (.inl (fun _ => 0)))) ∧ (g 157 = .inl (1, 9, .inr (.inl (fun _ => 0)))) ∧ (QuadAt g 158 159) ∧ (g 155 = .inr (3, [.ref 156, .ref 157, .ref 158]))) := by
  refine PM_of (by decide) (le_b rfl) ?_
  show PW _ _ _ _ _ _ (0, [(0, .ref 155)], [], (156, f))
  refine P_aload_n d_Maker_init_0 rfl ?_
  refine P_objInit d_Maker_init_1 L_Maker_1 im_objInit cd_objInit ⟨le_b rfl, le_b rfl⟩ (le_b rfl) ?_
  refine P_aload_n d_Maker_init_4 rfl ?_
  refine P_bipush (v := 9) d_Maker_init_5 (by decide) ?_
  refine P_newarr (t := 1) (N := 9) (a0 := (9, .inr (.inl (fun _ => 0)))) d_Maker_init_7 rfl (by decide) ac_long ⟨by decide, by decide⟩ (le_b rfl) ⟨rfl, fun _ _ => rfl⟩ (le_b rfl) (le_b rfl) (le_b rfl) ?_
  obtain ⟨f1, e1⟩ : ∃ f1 : Nat → pE, f1 = wu f 156 (.inl (1, 9, .inr (.inl (fun _ => 0)))) := ⟨_, rfl⟩
  have h155 : f1 155 = .inr (3, [.null, .null, .null]) := by rw [e1]; exact (wu_n (by decide)).trans h155
  have h156 : f1 156 = .inl (1, 9, .inr (.inl (fun _ => 0))) := by rw [e1]; exact wu_s _ _ _
  have o1 : ∀ i, (i < 156 ∨ 157 ≤ i) → f1 i = f i := fun i h1 => by rw [e1]; exact wu_n (by omega)
  show PW _ _ _ _ _ _ (9, [(0, .ref 155)], [.ref 156, .ref 155], (157, wu f 156 (.inl (1, 9, .inr (.inl (fun _ => 0))))))
  rw [← e1]
  refine P_putF (i := 0) d_Maker_init_9 ok_Maker (by decide) rfl L_Maker_7 rfl rfl h155 (fun _ => rfl) (fun _ => rfl) ?_
  obtain ⟨f2, e2⟩ : ∃ f2 : Nat → pE, f2 = wu f1 155 (.inr (3, [.ref 156, .null, .null])) := ⟨_, rfl⟩
  have h156 : f2 156 = .inl (1, 9, .inr (.inl (fun _ => 0))) := by rw [e2]; exact (wu_n (by decide)).trans h156
  have h155 : f2 155 = .inr (3, [.ref 156, .null, .null]) := by rw [e2]; exact wu_s _ _ _
  have o2 : ∀ i, (i < 155 ∨ 156 ≤ i) → f2 i = f1 i := fun i h1 => by rw [e2]; exact wu_n (by omega)
  show PW _ _ _ _ _ _ (12, [(0, .ref 155)], [], (157, wu f1 155 (.inr (3, [.ref 156, .null, .null]))))
  rw [← e2]
  refine P_aload_n d_Maker_init_12 rfl ?_
  refine P_bipush (v := 9) d_Maker_init_13 (by decide) ?_
  refine P_newarr (t := 1) (N := 9) (a0 := (9, .inr (.inl (fun _ => 0)))) d_Maker_init_15 rfl (by decide) ac_long ⟨by decide, by decide⟩ (le_b rfl) ⟨rfl, fun _ _ => rfl⟩ (le_b rfl) (le_b rfl) (le_b rfl) ?_
  obtain ⟨f3, e3⟩ : ∃ f3 : Nat → pE, f3 = wu f2 157 (.inl (1, 9, .inr (.inl (fun _ => 0)))) := ⟨_, rfl⟩
  have h156 : f3 156 = .inl (1, 9, .inr (.inl (fun _ => 0))) := by rw [e3]; exact (wu_n (by decide)).trans h156
  have h155 : f3 155 = .inr (3, [.ref 156, .null, .null]) := by rw [e3]; exact (wu_n (by decide)).trans h155
  have h157 : f3 157 = .inl (1, 9, .inr (.inl (fun _ => 0))) := by rw [e3]; exact wu_s _ _ _
  have o3 : ∀ i, (i < 157 ∨ 158 ≤ i) → f3 i = f2 i := fun i h1 => by rw [e3]; exact wu_n (by omega)
  show PW _ _ _ _ _ _ (17, [(0, .ref 155)], [.ref 157, .ref 155], (158, wu f2 157 (.inl (1, 9, .inr (.inl (fun _ => 0))))))
  rw [← e3]
  refine P_putF (i := 1) d_Maker_init_17 ok_Maker (by decide) rfl L_Maker_13 rfl rfl h155 (fun _ => rfl) (fun _ => rfl) ?_
  obtain ⟨f4, e4⟩ : ∃ f4 : Nat → pE, f4 = wu f3 155 (.inr (3, [.ref 156, .ref 157, .null])) := ⟨_, rfl⟩
  have h156 : f4 156 = .inl (1, 9, .inr (.inl (fun _ => 0))) := by rw [e4]; exact (wu_n (by decide)).trans h156
  have h157 : f4 157 = .inl (1, 9, .inr (.inl (fun _ => 0))) := by rw [e4]; exact (wu_n (by decide)).trans h157
  have h155 : f4 155 = .inr (3, [.ref 156, .ref 157, .null]) := by rw [e4]; exact wu_s _ _ _
  have o4 : ∀ i, (i < 155 ∨ 156 ≤ i) → f4 i = f3 i := fun i h1 => by rw [e4]; exact wu_n (by omega)
  show PW _ _ _ _ _ _ (20, [(0, .ref 155)], [], (158, wu f3 155 (.inr (3, [.ref 156, .ref 157, .null]))))
  rw [← e4]
  refine P_aload_n d_Maker_init_20 rfl ?_
  refine P_new (fs := [.null]) d_Maker_init_21 ok_Quad L_Maker_16 in_Quad.1 in_Quad.2 rfl (fun j hj => by rcases (show j = 0 by omega) with rfl <;> rfl) (fun _ => rfl) (le_b rfl) (le_b rfl) (le_b rfl) ?_
  obtain ⟨f5, e5⟩ : ∃ f5 : Nat → pE, f5 = wu f4 158 (.inr (0, [.null])) := ⟨_, rfl⟩
  have h156 : f5 156 = .inl (1, 9, .inr (.inl (fun _ => 0))) := by rw [e5]; exact (wu_n (by decide)).trans h156
  have h157 : f5 157 = .inl (1, 9, .inr (.inl (fun _ => 0))) := by rw [e5]; exact (wu_n (by decide)).trans h157
  have h155 : f5 155 = .inr (3, [.ref 156, .ref 157, .null]) := by rw [e5]; exact (wu_n (by decide)).trans h155
  have h158 : f5 158 = .inr (0, [.null]) := by rw [e5]; exact wu_s _ _ _
  have o5 : ∀ i, (i < 158 ∨ 159 ≤ i) → f5 i = f4 i := fun i h1 => by rw [e5]; exact wu_n (by omega)
  show PW _ _ _ _ _ _ (24, [(0, .ref 155)], [.ref 158, .ref 155], (159, wu f4 158 (.inr (0, [.null]))))
  rw [← e5]
  refine P_dup d_Maker_init_24 rfl ?_
  refine P_callIN (as := []) (b := 158) d_Maker_init_25 co_Quad_init rfl rfl L_Maker_18 im_Quad_init (c_Quad_init 158 159 _ h158 (le_b rfl) (by decide)) rfl ⟨le_b rfl, le_b rfl⟩ ⟨le_b rfl, le_b rfl⟩ (le_b rfl) ?_ _ rfl
  rintro _ _ ⟨rfl, f6, rfl, o6, p158⟩
  have h156 : f6 156 = .inl (1, 9, .inr (.inl (fun _ => 0))) := (o6 _ (by decide) (by decide)).trans h156
  have h157 : f6 157 = .inl (1, 9, .inr (.inl (fun _ => 0))) := (o6 _ (by decide) (by decide)).trans h157
  have h155 : f6 155 = .inr (3, [.ref 156, .ref 157, .null]) := (o6 _ (by decide) (by decide)).trans h155
  show PW _ _ _ _ _ _ (28, [(0, .ref 155)], [.ref 158, .ref 155], (164, f6))
  refine P_putF (i := 2) d_Maker_init_28 ok_Maker (by decide) rfl L_Maker_19 rfl rfl h155 (fun _ => rfl) (fun _ => rfl) ?_
  obtain ⟨f7, e7⟩ : ∃ f7 : Nat → pE, f7 = wu f6 155 (.inr (3, [.ref 156, .ref 157, .ref 158])) := ⟨_, rfl⟩
  have h156 : f7 156 = .inl (1, 9, .inr (.inl (fun _ => 0))) := by rw [e7]; exact (wu_n (by decide)).trans h156
  have h157 : f7 157 = .inl (1, 9, .inr (.inl (fun _ => 0))) := by rw [e7]; exact (wu_n (by decide)).trans h157
  have p158 : QuadAt f7 158 159 := p158.kept (by rw [e7]; exact wu_n (by decide)) (fun i h1 h2 => by rw [e7]; exact wu_n (by omega))
  have h155 : f7 155 = .inr (3, [.ref 156, .ref 157, .ref 158]) := by rw [e7]; exact wu_s _ _ _
  have o7 : ∀ i, (i < 155 ∨ 156 ≤ i) → f7 i = f6 i := fun i h1 => by rw [e7]; exact wu_n (by omega)
  show PW _ _ _ _ _ _ (31, [(0, .ref 155)], [], (164, wu f6 155 (.inr (3, [.ref 156, .ref 157, .ref 158]))))
  rw [← e7]
  exact P_vret d_Maker_init_31 rfl (le_b rfl) (le_b rfl) ⟨rfl, f7, rfl, fun i h1 h2 => by rw [o7 i (by omega), o6 i (by omega) (by omega), o5 i (by omega), o4 i (by omega), o3 i (by omega), o2 i (by omega), o1 i (by omega)], h156, h157, p158, h155⟩
set_option maxRecDepth 20000 in
theorem c_Reader_init {G : pG} (f : Nat → pE) (h164 : f 164 = .inr (4, [.null, .null, .null, .null, .null, .null, .null, .int 0, .int 0, .int 0, .int 0, .int 0, .int 0, .int 0])) : PM G M_Reader_init 1 4 28 [.ref 164, .ref 153, .ref 155, .ref 77] (165, f) (fun r w' => r = none ∧ ∃ g : Nat → pE, w' = (169, g) ∧ (∀ i, i ≠ 164 → (i < 165 ∨ 169 ≤ i) → g i = f i) ∧ (g 165 = .inl (0, 8, .inl (fun _ => 0))) ∧ (g 166 = .inl (0, 8, .inl (fun _ => 0))) ∧ (g 167 = .inl (1, 3, .inr (.inl (fun _ => 0)))) ∧ (g 168 = .inl (1, 9, .inr (.inl (fun _ => 0)))) ∧ (g 164 = .inr (4, [.ref 153, .ref 155, .ref 165, .ref 166, .ref 167, .ref 168, .ref 77, .int 0, .int 0, .int 0, .int 0, .int 0, .int 0, .int (-1)]))) := by
  refine PM_of (by decide) (le_b rfl) ?_
  show PW _ _ _ _ _ _ (0, [(0, .ref 164), (1, .ref 153), (2, .ref 155), (3, .ref 77)], [], (165, f))
  refine P_aload_n d_Reader_init_0 rfl ?_
  refine P_objInit d_Reader_init_1 L_Reader_3 im_objInit cd_objInit ⟨le_b rfl, le_b rfl⟩ (le_b rfl) ?_
  refine P_aload_n d_Reader_init_4 rfl ?_
  refine P_bipush (v := 8) d_Reader_init_5 (by decide) ?_
  refine P_newarr (t := 0) (N := 8) (a0 := (8, .inl (fun _ => 0))) d_Reader_init_7 rfl (by decide) ac_int ⟨by decide, by decide⟩ (le_b rfl) ⟨rfl, fun _ _ => rfl⟩ (le_b rfl) (le_b rfl) (le_b rfl) ?_
  obtain ⟨f1, e1⟩ : ∃ f1 : Nat → pE, f1 = wu f 165 (.inl (0, 8, .inl (fun _ => 0))) := ⟨_, rfl⟩
  have h164 : f1 164 = .inr (4, [.null, .null, .null, .null, .null, .null, .null, .int 0, .int 0, .int 0, .int 0, .int 0, .int 0, .int 0]) := by rw [e1]; exact (wu_n (by decide)).trans h164
  have h165 : f1 165 = .inl (0, 8, .inl (fun _ => 0)) := by rw [e1]; exact wu_s _ _ _
  have o1 : ∀ i, (i < 165 ∨ 166 ≤ i) → f1 i = f i := fun i h1 => by rw [e1]; exact wu_n (by omega)
  show PW _ _ _ _ _ _ (9, [(0, .ref 164), (1, .ref 153), (2, .ref 155), (3, .ref 77)], [.ref 165, .ref 164], (166, wu f 165 (.inl (0, 8, .inl (fun _ => 0)))))
  rw [← e1]
  refine P_putF (i := 2) d_Reader_init_9 ok_Reader (by decide) rfl L_Reader_9 rfl rfl h164 (fun _ => rfl) (fun _ => rfl) ?_
  obtain ⟨f2, e2⟩ : ∃ f2 : Nat → pE, f2 = wu f1 164 (.inr (4, [.null, .null, .ref 165, .null, .null, .null, .null, .int 0, .int 0, .int 0, .int 0, .int 0, .int 0, .int 0])) := ⟨_, rfl⟩
  have h165 : f2 165 = .inl (0, 8, .inl (fun _ => 0)) := by rw [e2]; exact (wu_n (by decide)).trans h165
  have h164 : f2 164 = .inr (4, [.null, .null, .ref 165, .null, .null, .null, .null, .int 0, .int 0, .int 0, .int 0, .int 0, .int 0, .int 0]) := by rw [e2]; exact wu_s _ _ _
  have o2 : ∀ i, (i < 164 ∨ 165 ≤ i) → f2 i = f1 i := fun i h1 => by rw [e2]; exact wu_n (by omega)
  show PW _ _ _ _ _ _ (12, [(0, .ref 164), (1, .ref 153), (2, .ref 155), (3, .ref 77)], [], (166, wu f1 164 (.inr (4, [.null, .null, .ref 165, .null, .null, .null, .null, .int 0, .int 0, .int 0, .int 0, .int 0, .int 0, .int 0]))))
  rw [← e2]
  refine P_aload_n d_Reader_init_12 rfl ?_
  refine P_bipush (v := 8) d_Reader_init_13 (by decide) ?_
  refine P_newarr (t := 0) (N := 8) (a0 := (8, .inl (fun _ => 0))) d_Reader_init_15 rfl (by decide) ac_int ⟨by decide, by decide⟩ (le_b rfl) ⟨rfl, fun _ _ => rfl⟩ (le_b rfl) (le_b rfl) (le_b rfl) ?_
  obtain ⟨f3, e3⟩ : ∃ f3 : Nat → pE, f3 = wu f2 166 (.inl (0, 8, .inl (fun _ => 0))) := ⟨_, rfl⟩
  have h165 : f3 165 = .inl (0, 8, .inl (fun _ => 0)) := by rw [e3]; exact (wu_n (by decide)).trans h165
  have h164 : f3 164 = .inr (4, [.null, .null, .ref 165, .null, .null, .null, .null, .int 0, .int 0, .int 0, .int 0, .int 0, .int 0, .int 0]) := by rw [e3]; exact (wu_n (by decide)).trans h164
  have h166 : f3 166 = .inl (0, 8, .inl (fun _ => 0)) := by rw [e3]; exact wu_s _ _ _
  have o3 : ∀ i, (i < 166 ∨ 167 ≤ i) → f3 i = f2 i := fun i h1 => by rw [e3]; exact wu_n (by omega)
  show PW _ _ _ _ _ _ (17, [(0, .ref 164), (1, .ref 153), (2, .ref 155), (3, .ref 77)], [.ref 166, .ref 164], (167, wu f2 166 (.inl (0, 8, .inl (fun _ => 0)))))
  rw [← e3]
  refine P_putF (i := 3) d_Reader_init_17 ok_Reader (by decide) rfl L_Reader_15 rfl rfl h164 (fun _ => rfl) (fun _ => rfl) ?_
  obtain ⟨f4, e4⟩ : ∃ f4 : Nat → pE, f4 = wu f3 164 (.inr (4, [.null, .null, .ref 165, .ref 166, .null, .null, .null, .int 0, .int 0, .int 0, .int 0, .int 0, .int 0, .int 0])) := ⟨_, rfl⟩
  have h165 : f4 165 = .inl (0, 8, .inl (fun _ => 0)) := by rw [e4]; exact (wu_n (by decide)).trans h165
  have h166 : f4 166 = .inl (0, 8, .inl (fun _ => 0)) := by rw [e4]; exact (wu_n (by decide)).trans h166
  have h164 : f4 164 = .inr (4, [.null, .null, .ref 165, .ref 166, .null, .null, .null, .int 0, .int 0, .int 0, .int 0, .int 0, .int 0, .int 0]) := by rw [e4]; exact wu_s _ _ _
  have o4 : ∀ i, (i < 164 ∨ 165 ≤ i) → f4 i = f3 i := fun i h1 => by rw [e4]; exact wu_n (by omega)
  show PW _ _ _ _ _ _ (20, [(0, .ref 164), (1, .ref 153), (2, .ref 155), (3, .ref 77)], [], (167, wu f3 164 (.inr (4, [.null, .null, .ref 165, .ref 166, .null, .null, .null, .int 0, .int 0, .int 0, .int 0, .int 0, .int 0, .int 0]))))
  rw [← e4]
  refine P_aload_n d_Reader_init_20 rfl ?_
  refine P_iconst (v := 3) d_Reader_init_21 (by decide) ?_
  refine P_newarr (t := 1) (N := 3) (a0 := (3, .inr (.inl (fun _ => 0)))) d_Reader_init_22 rfl (by decide) ac_long ⟨by decide, by decide⟩ (le_b rfl) ⟨rfl, fun _ _ => rfl⟩ (le_b rfl) (le_b rfl) (le_b rfl) ?_
  obtain ⟨f5, e5⟩ : ∃ f5 : Nat → pE, f5 = wu f4 167 (.inl (1, 3, .inr (.inl (fun _ => 0)))) := ⟨_, rfl⟩
  have h165 : f5 165 = .inl (0, 8, .inl (fun _ => 0)) := by rw [e5]; exact (wu_n (by decide)).trans h165
  have h166 : f5 166 = .inl (0, 8, .inl (fun _ => 0)) := by rw [e5]; exact (wu_n (by decide)).trans h166
  have h164 : f5 164 = .inr (4, [.null, .null, .ref 165, .ref 166, .null, .null, .null, .int 0, .int 0, .int 0, .int 0, .int 0, .int 0, .int 0]) := by rw [e5]; exact (wu_n (by decide)).trans h164
  have h167 : f5 167 = .inl (1, 3, .inr (.inl (fun _ => 0))) := by rw [e5]; exact wu_s _ _ _
  have o5 : ∀ i, (i < 167 ∨ 168 ≤ i) → f5 i = f4 i := fun i h1 => by rw [e5]; exact wu_n (by omega)
  show PW _ _ _ _ _ _ (24, [(0, .ref 164), (1, .ref 153), (2, .ref 155), (3, .ref 77)], [.ref 167, .ref 164], (168, wu f4 167 (.inl (1, 3, .inr (.inl (fun _ => 0))))))
  rw [← e5]
  refine P_putF (i := 4) d_Reader_init_24 ok_Reader (by decide) rfl L_Reader_18 rfl rfl h164 (fun _ => rfl) (fun _ => rfl) ?_
  obtain ⟨f6, e6⟩ : ∃ f6 : Nat → pE, f6 = wu f5 164 (.inr (4, [.null, .null, .ref 165, .ref 166, .ref 167, .null, .null, .int 0, .int 0, .int 0, .int 0, .int 0, .int 0, .int 0])) := ⟨_, rfl⟩
  have h165 : f6 165 = .inl (0, 8, .inl (fun _ => 0)) := by rw [e6]; exact (wu_n (by decide)).trans h165
  have h166 : f6 166 = .inl (0, 8, .inl (fun _ => 0)) := by rw [e6]; exact (wu_n (by decide)).trans h166
  have h167 : f6 167 = .inl (1, 3, .inr (.inl (fun _ => 0))) := by rw [e6]; exact (wu_n (by decide)).trans h167
  have h164 : f6 164 = .inr (4, [.null, .null, .ref 165, .ref 166, .ref 167, .null, .null, .int 0, .int 0, .int 0, .int 0, .int 0, .int 0, .int 0]) := by rw [e6]; exact wu_s _ _ _
  have o6 : ∀ i, (i < 164 ∨ 165 ≤ i) → f6 i = f5 i := fun i h1 => by rw [e6]; exact wu_n (by omega)
  show PW _ _ _ _ _ _ (27, [(0, .ref 164), (1, .ref 153), (2, .ref 155), (3, .ref 77)], [], (168, wu f5 164 (.inr (4, [.null, .null, .ref 165, .ref 166, .ref 167, .null, .null, .int 0, .int 0, .int 0, .int 0, .int 0, .int 0, .int 0]))))
  rw [← e6]
  refine P_aload_n d_Reader_init_27 rfl ?_
  refine P_bipush (v := 9) d_Reader_init_28 (by decide) ?_
  refine P_newarr (t := 1) (N := 9) (a0 := (9, .inr (.inl (fun _ => 0)))) d_Reader_init_30 rfl (by decide) ac_long ⟨by decide, by decide⟩ (le_b rfl) ⟨rfl, fun _ _ => rfl⟩ (le_b rfl) (le_b rfl) (le_b rfl) ?_
  obtain ⟨f7, e7⟩ : ∃ f7 : Nat → pE, f7 = wu f6 168 (.inl (1, 9, .inr (.inl (fun _ => 0)))) := ⟨_, rfl⟩
  have h165 : f7 165 = .inl (0, 8, .inl (fun _ => 0)) := by rw [e7]; exact (wu_n (by decide)).trans h165
  have h166 : f7 166 = .inl (0, 8, .inl (fun _ => 0)) := by rw [e7]; exact (wu_n (by decide)).trans h166
  have h167 : f7 167 = .inl (1, 3, .inr (.inl (fun _ => 0))) := by rw [e7]; exact (wu_n (by decide)).trans h167
  have h164 : f7 164 = .inr (4, [.null, .null, .ref 165, .ref 166, .ref 167, .null, .null, .int 0, .int 0, .int 0, .int 0, .int 0, .int 0, .int 0]) := by rw [e7]; exact (wu_n (by decide)).trans h164
  have h168 : f7 168 = .inl (1, 9, .inr (.inl (fun _ => 0))) := by rw [e7]; exact wu_s _ _ _
  have o7 : ∀ i, (i < 168 ∨ 169 ≤ i) → f7 i = f6 i := fun i h1 => by rw [e7]; exact wu_n (by omega)
  show PW _ _ _ _ _ _ (32, [(0, .ref 164), (1, .ref 153), (2, .ref 155), (3, .ref 77)], [.ref 168, .ref 164], (169, wu f6 168 (.inl (1, 9, .inr (.inl (fun _ => 0))))))
  rw [← e7]
  refine P_putF (i := 5) d_Reader_init_32 ok_Reader (by decide) rfl L_Reader_22 rfl rfl h164 (fun _ => rfl) (fun _ => rfl) ?_
  obtain ⟨f8, e8⟩ : ∃ f8 : Nat → pE, f8 = wu f7 164 (.inr (4, [.null, .null, .ref 165, .ref 166, .ref 167, .ref 168, .null, .int 0, .int 0, .int 0, .int 0, .int 0, .int 0, .int 0])) := ⟨_, rfl⟩
  have h165 : f8 165 = .inl (0, 8, .inl (fun _ => 0)) := by rw [e8]; exact (wu_n (by decide)).trans h165
  have h166 : f8 166 = .inl (0, 8, .inl (fun _ => 0)) := by rw [e8]; exact (wu_n (by decide)).trans h166
  have h167 : f8 167 = .inl (1, 3, .inr (.inl (fun _ => 0))) := by rw [e8]; exact (wu_n (by decide)).trans h167
  have h168 : f8 168 = .inl (1, 9, .inr (.inl (fun _ => 0))) := by rw [e8]; exact (wu_n (by decide)).trans h168
  have h164 : f8 164 = .inr (4, [.null, .null, .ref 165, .ref 166, .ref 167, .ref 168, .null, .int 0, .int 0, .int 0, .int 0, .int 0, .int 0, .int 0]) := by rw [e8]; exact wu_s _ _ _
  have o8 : ∀ i, (i < 164 ∨ 165 ≤ i) → f8 i = f7 i := fun i h1 => by rw [e8]; exact wu_n (by omega)
  show PW _ _ _ _ _ _ (35, [(0, .ref 164), (1, .ref 153), (2, .ref 155), (3, .ref 77)], [], (169, wu f7 164 (.inr (4, [.null, .null, .ref 165, .ref 166, .ref 167, .ref 168, .null, .int 0, .int 0, .int 0, .int 0, .int 0, .int 0, .int 0]))))
  rw [← e8]
  refine P_aload_n d_Reader_init_35 rfl ?_
  refine P_iconst (v := (-1)) d_Reader_init_36 (by decide) ?_
  refine P_put (i := 13) d_Reader_init_37 ok_Reader (by decide) rfl L_Reader_25 h164 (fun _ => rfl) (fun _ => rfl) ?_
  obtain ⟨f9, e9⟩ : ∃ f9 : Nat → pE, f9 = wu f8 164 (.inr (4, [.null, .null, .ref 165, .ref 166, .ref 167, .ref 168, .null, .int 0, .int 0, .int 0, .int 0, .int 0, .int 0, .int (-1)])) := ⟨_, rfl⟩
  have h165 : f9 165 = .inl (0, 8, .inl (fun _ => 0)) := by rw [e9]; exact (wu_n (by decide)).trans h165
  have h166 : f9 166 = .inl (0, 8, .inl (fun _ => 0)) := by rw [e9]; exact (wu_n (by decide)).trans h166
  have h167 : f9 167 = .inl (1, 3, .inr (.inl (fun _ => 0))) := by rw [e9]; exact (wu_n (by decide)).trans h167
  have h168 : f9 168 = .inl (1, 9, .inr (.inl (fun _ => 0))) := by rw [e9]; exact (wu_n (by decide)).trans h168
  have h164 : f9 164 = .inr (4, [.null, .null, .ref 165, .ref 166, .ref 167, .ref 168, .null, .int 0, .int 0, .int 0, .int 0, .int 0, .int 0, .int (-1)]) := by rw [e9]; exact wu_s _ _ _
  have o9 : ∀ i, (i < 164 ∨ 165 ≤ i) → f9 i = f8 i := fun i h1 => by rw [e9]; exact wu_n (by omega)
  show PW _ _ _ _ _ _ (40, [(0, .ref 164), (1, .ref 153), (2, .ref 155), (3, .ref 77)], [], (169, wu f8 164 (.inr (4, [.null, .null, .ref 165, .ref 166, .ref 167, .ref 168, .null, .int 0, .int 0, .int 0, .int 0, .int 0, .int 0, .int (-1)]))))
  rw [← e9]
  refine P_aload_n d_Reader_init_40 rfl ?_
  refine P_aload_n d_Reader_init_41 rfl ?_
  refine P_putF (i := 0) d_Reader_init_42 ok_Reader (by decide) rfl L_Reader_29 rfl rfl h164 (fun _ => rfl) (fun _ => rfl) ?_
  obtain ⟨f10, e10⟩ : ∃ f10 : Nat → pE, f10 = wu f9 164 (.inr (4, [.ref 153, .null, .ref 165, .ref 166, .ref 167, .ref 168, .null, .int 0, .int 0, .int 0, .int 0, .int 0, .int 0, .int (-1)])) := ⟨_, rfl⟩
  have h165 : f10 165 = .inl (0, 8, .inl (fun _ => 0)) := by rw [e10]; exact (wu_n (by decide)).trans h165
  have h166 : f10 166 = .inl (0, 8, .inl (fun _ => 0)) := by rw [e10]; exact (wu_n (by decide)).trans h166
  have h167 : f10 167 = .inl (1, 3, .inr (.inl (fun _ => 0))) := by rw [e10]; exact (wu_n (by decide)).trans h167
  have h168 : f10 168 = .inl (1, 9, .inr (.inl (fun _ => 0))) := by rw [e10]; exact (wu_n (by decide)).trans h168
  have h164 : f10 164 = .inr (4, [.ref 153, .null, .ref 165, .ref 166, .ref 167, .ref 168, .null, .int 0, .int 0, .int 0, .int 0, .int 0, .int 0, .int (-1)]) := by rw [e10]; exact wu_s _ _ _
  have o10 : ∀ i, (i < 164 ∨ 165 ≤ i) → f10 i = f9 i := fun i h1 => by rw [e10]; exact wu_n (by omega)
  show PW _ _ _ _ _ _ (45, [(0, .ref 164), (1, .ref 153), (2, .ref 155), (3, .ref 77)], [], (169, wu f9 164 (.inr (4, [.ref 153, .null, .ref 165, .ref 166, .ref 167, .ref 168, .null, .int 0, .int 0, .int 0, .int 0, .int 0, .int 0, .int (-1)]))))
  rw [← e10]
  refine P_aload_n d_Reader_init_45 rfl ?_
  refine P_aload_n d_Reader_init_46 rfl ?_
  refine P_putF (i := 1) d_Reader_init_47 ok_Reader (by decide) rfl L_Reader_33 rfl rfl h164 (fun _ => rfl) (fun _ => rfl) ?_
  obtain ⟨f11, e11⟩ : ∃ f11 : Nat → pE, f11 = wu f10 164 (.inr (4, [.ref 153, .ref 155, .ref 165, .ref 166, .ref 167, .ref 168, .null, .int 0, .int 0, .int 0, .int 0, .int 0, .int 0, .int (-1)])) := ⟨_, rfl⟩
  have h165 : f11 165 = .inl (0, 8, .inl (fun _ => 0)) := by rw [e11]; exact (wu_n (by decide)).trans h165
  have h166 : f11 166 = .inl (0, 8, .inl (fun _ => 0)) := by rw [e11]; exact (wu_n (by decide)).trans h166
  have h167 : f11 167 = .inl (1, 3, .inr (.inl (fun _ => 0))) := by rw [e11]; exact (wu_n (by decide)).trans h167
  have h168 : f11 168 = .inl (1, 9, .inr (.inl (fun _ => 0))) := by rw [e11]; exact (wu_n (by decide)).trans h168
  have h164 : f11 164 = .inr (4, [.ref 153, .ref 155, .ref 165, .ref 166, .ref 167, .ref 168, .null, .int 0, .int 0, .int 0, .int 0, .int 0, .int 0, .int (-1)]) := by rw [e11]; exact wu_s _ _ _
  have o11 : ∀ i, (i < 164 ∨ 165 ≤ i) → f11 i = f10 i := fun i h1 => by rw [e11]; exact wu_n (by omega)
  show PW _ _ _ _ _ _ (50, [(0, .ref 164), (1, .ref 153), (2, .ref 155), (3, .ref 77)], [], (169, wu f10 164 (.inr (4, [.ref 153, .ref 155, .ref 165, .ref 166, .ref 167, .ref 168, .null, .int 0, .int 0, .int 0, .int 0, .int 0, .int 0, .int (-1)]))))
  rw [← e11]
  refine P_aload_n d_Reader_init_50 rfl ?_
  refine P_aload_n d_Reader_init_51 rfl ?_
  refine P_put (i := 6) d_Reader_init_52 ok_Reader (by decide) rfl L_Reader_37 h164 (fun _ => rfl) (fun _ => rfl) ?_
  obtain ⟨f12, e12⟩ : ∃ f12 : Nat → pE, f12 = wu f11 164 (.inr (4, [.ref 153, .ref 155, .ref 165, .ref 166, .ref 167, .ref 168, .ref 77, .int 0, .int 0, .int 0, .int 0, .int 0, .int 0, .int (-1)])) := ⟨_, rfl⟩
  have h165 : f12 165 = .inl (0, 8, .inl (fun _ => 0)) := by rw [e12]; exact (wu_n (by decide)).trans h165
  have h166 : f12 166 = .inl (0, 8, .inl (fun _ => 0)) := by rw [e12]; exact (wu_n (by decide)).trans h166
  have h167 : f12 167 = .inl (1, 3, .inr (.inl (fun _ => 0))) := by rw [e12]; exact (wu_n (by decide)).trans h167
  have h168 : f12 168 = .inl (1, 9, .inr (.inl (fun _ => 0))) := by rw [e12]; exact (wu_n (by decide)).trans h168
  have h164 : f12 164 = .inr (4, [.ref 153, .ref 155, .ref 165, .ref 166, .ref 167, .ref 168, .ref 77, .int 0, .int 0, .int 0, .int 0, .int 0, .int 0, .int (-1)]) := by rw [e12]; exact wu_s _ _ _
  have o12 : ∀ i, (i < 164 ∨ 165 ≤ i) → f12 i = f11 i := fun i h1 => by rw [e12]; exact wu_n (by omega)
  show PW _ _ _ _ _ _ (55, [(0, .ref 164), (1, .ref 153), (2, .ref 155), (3, .ref 77)], [], (169, wu f11 164 (.inr (4, [.ref 153, .ref 155, .ref 165, .ref 166, .ref 167, .ref 168, .ref 77, .int 0, .int 0, .int 0, .int 0, .int 0, .int 0, .int (-1)]))))
  rw [← e12]
  exact P_vret d_Reader_init_55 rfl (le_b rfl) (le_b rfl) ⟨rfl, f12, rfl, fun i h1 h2 => by rw [o12 i (by omega), o11 i (by omega), o10 i (by omega), o9 i (by omega), o8 i (by omega), o7 i (by omega), o6 i (by omega), o5 i (by omega), o4 i (by omega), o3 i (by omega), o2 i (by omega), o1 i (by omega)], h165, h166, h167, h168, h164⟩
set_option maxRecDepth 20000 in
theorem c_Past_init {G : pG} (f : Nat → pE) (h169 : f 169 = .inr (5, [.null, .null, .null, .int 0, .int 0])) : PM G M_Past_init 1 19 432 [.ref 169] (170, f) (fun r w' => r = none ∧ ∃ g : Nat → pE, w' = (189, g) ∧ (∀ i, i ≠ 169 → (i < 170 ∨ 189 ≤ i) → g i = f i) ∧ (g 170 = .inl (0, 16, .inl (fun _ => 0))) ∧ (g 171 = .inl (0, 16, .inl (fun _ => 0))) ∧ (g 172 = .inl (3, 16, refs (rows_of 172 16))) ∧ (∀ i, i < 16 → g (173 + i) = .inl (1, 24, .inr (.inl (fun _ => 0)))) ∧ (g 169 = .inr (5, [.ref 170, .ref 171, .ref 172, .int 0, .int 0]))) := by
  refine PM_of (by decide) (le_b rfl) ?_
  show PW _ _ _ _ _ _ (0, [(0, .ref 169)], [], (170, f))
  refine P_aload_n d_Past_init_0 rfl ?_
  refine P_objInit d_Past_init_1 L_Past_3 im_objInit cd_objInit ⟨le_b rfl, le_b rfl⟩ (le_b rfl) ?_
  refine P_aload_n d_Past_init_4 rfl ?_
  refine P_bipush (v := 16) d_Past_init_5 (by decide) ?_
  refine P_newarr (t := 0) (N := 16) (a0 := (16, .inl (fun _ => 0))) d_Past_init_7 rfl (by decide) ac_int ⟨by decide, by decide⟩ (le_b rfl) ⟨rfl, fun _ _ => rfl⟩ (le_b rfl) (le_b rfl) (le_b rfl) ?_
  obtain ⟨f1, e1⟩ : ∃ f1 : Nat → pE, f1 = wu f 170 (.inl (0, 16, .inl (fun _ => 0))) := ⟨_, rfl⟩
  have h169 : f1 169 = .inr (5, [.null, .null, .null, .int 0, .int 0]) := by rw [e1]; exact (wu_n (by decide)).trans h169
  have h170 : f1 170 = .inl (0, 16, .inl (fun _ => 0)) := by rw [e1]; exact wu_s _ _ _
  have o1 : ∀ i, (i < 170 ∨ 171 ≤ i) → f1 i = f i := fun i h1 => by rw [e1]; exact wu_n (by omega)
  show PW _ _ _ _ _ _ (9, [(0, .ref 169)], [.ref 170, .ref 169], (171, wu f 170 (.inl (0, 16, .inl (fun _ => 0)))))
  rw [← e1]
  refine P_putF (i := 0) d_Past_init_9 ok_Past (by decide) rfl L_Past_9 rfl rfl h169 (fun _ => rfl) (fun _ => rfl) ?_
  obtain ⟨f2, e2⟩ : ∃ f2 : Nat → pE, f2 = wu f1 169 (.inr (5, [.ref 170, .null, .null, .int 0, .int 0])) := ⟨_, rfl⟩
  have h170 : f2 170 = .inl (0, 16, .inl (fun _ => 0)) := by rw [e2]; exact (wu_n (by decide)).trans h170
  have h169 : f2 169 = .inr (5, [.ref 170, .null, .null, .int 0, .int 0]) := by rw [e2]; exact wu_s _ _ _
  have o2 : ∀ i, (i < 169 ∨ 170 ≤ i) → f2 i = f1 i := fun i h1 => by rw [e2]; exact wu_n (by omega)
  show PW _ _ _ _ _ _ (12, [(0, .ref 169)], [], (171, wu f1 169 (.inr (5, [.ref 170, .null, .null, .int 0, .int 0]))))
  rw [← e2]
  refine P_aload_n d_Past_init_12 rfl ?_
  refine P_bipush (v := 16) d_Past_init_13 (by decide) ?_
  refine P_newarr (t := 0) (N := 16) (a0 := (16, .inl (fun _ => 0))) d_Past_init_15 rfl (by decide) ac_int ⟨by decide, by decide⟩ (le_b rfl) ⟨rfl, fun _ _ => rfl⟩ (le_b rfl) (le_b rfl) (le_b rfl) ?_
  obtain ⟨f3, e3⟩ : ∃ f3 : Nat → pE, f3 = wu f2 171 (.inl (0, 16, .inl (fun _ => 0))) := ⟨_, rfl⟩
  have h170 : f3 170 = .inl (0, 16, .inl (fun _ => 0)) := by rw [e3]; exact (wu_n (by decide)).trans h170
  have h169 : f3 169 = .inr (5, [.ref 170, .null, .null, .int 0, .int 0]) := by rw [e3]; exact (wu_n (by decide)).trans h169
  have h171 : f3 171 = .inl (0, 16, .inl (fun _ => 0)) := by rw [e3]; exact wu_s _ _ _
  have o3 : ∀ i, (i < 171 ∨ 172 ≤ i) → f3 i = f2 i := fun i h1 => by rw [e3]; exact wu_n (by omega)
  show PW _ _ _ _ _ _ (17, [(0, .ref 169)], [.ref 171, .ref 169], (172, wu f2 171 (.inl (0, 16, .inl (fun _ => 0)))))
  rw [← e3]
  refine P_putF (i := 1) d_Past_init_17 ok_Past (by decide) rfl L_Past_15 rfl rfl h169 (fun _ => rfl) (fun _ => rfl) ?_
  obtain ⟨f4, e4⟩ : ∃ f4 : Nat → pE, f4 = wu f3 169 (.inr (5, [.ref 170, .ref 171, .null, .int 0, .int 0])) := ⟨_, rfl⟩
  have h170 : f4 170 = .inl (0, 16, .inl (fun _ => 0)) := by rw [e4]; exact (wu_n (by decide)).trans h170
  have h171 : f4 171 = .inl (0, 16, .inl (fun _ => 0)) := by rw [e4]; exact (wu_n (by decide)).trans h171
  have h169 : f4 169 = .inr (5, [.ref 170, .ref 171, .null, .int 0, .int 0]) := by rw [e4]; exact wu_s _ _ _
  have o4 : ∀ i, (i < 169 ∨ 170 ≤ i) → f4 i = f3 i := fun i h1 => by rw [e4]; exact wu_n (by omega)
  show PW _ _ _ _ _ _ (20, [(0, .ref 169)], [], (172, wu f3 169 (.inr (5, [.ref 170, .ref 171, .null, .int 0, .int 0]))))
  rw [← e4]
  refine P_aload_n d_Past_init_20 rfl ?_
  refine P_bipush (v := 16) d_Past_init_21 (by decide) ?_
  refine P_bipush (v := 24) d_Past_init_23 (by decide) ?_
  refine P_mnew (N := 16) (K := 24) d_Past_init_25 L_Past_18 ac_long ⟨by decide, by decide⟩ ⟨by decide, by decide⟩ (le_b rfl) (le_b rfl) (le_b rfl) (le_b rfl) (le_b rfl) ?_
  obtain ⟨f5, e5⟩ : ∃ f5 : Nat → pE, f5 = wr (wu f4 172 (.inl (3, 16, refs (rows_of 172 16)))) 173 189 (.inl (1, 24, .inr (.inl (fun _ => 0)))) := ⟨_, rfl⟩
  have h170 : f5 170 = .inl (0, 16, .inl (fun _ => 0)) := by rw [e5]; exact ((wr_out (by decide)).trans (wu_n (by decide))).trans h170
  have h171 : f5 171 = .inl (0, 16, .inl (fun _ => 0)) := by rw [e5]; exact ((wr_out (by decide)).trans (wu_n (by decide))).trans h171
  have h169 : f5 169 = .inr (5, [.ref 170, .ref 171, .null, .int 0, .int 0]) := by rw [e5]; exact ((wr_out (by decide)).trans (wu_n (by decide))).trans h169
  have h172 : f5 172 = .inl (3, 16, refs (rows_of 172 16)) := by rw [e5]; exact (wr_out (by decide)).trans (wu_s _ _ _)
  have h173 : ∀ i, i < 16 → f5 (173 + i) = .inl (1, 24, .inr (.inl (fun _ => 0))) := by rw [e5]; exact fun i hi => wr_in (by omega) (by omega)
  have o5 : ∀ i, (i < 172 ∨ 189 ≤ i) → f5 i = f4 i := fun i h1 => by rw [e5]; exact (wr_out (by omega)).trans (wu_n (by omega))
  show PW _ _ _ _ _ _ (29, [(0, .ref 169)], [.ref 172, .ref 169], (189, wr (wu f4 172 (.inl (3, 16, refs (rows_of 172 16)))) 173 189 (.inl (1, 24, .inr (.inl (fun _ => 0))))))
  rw [← e5]
  refine P_putF (i := 2) d_Past_init_29 ok_Past (by decide) rfl L_Past_20 rfl rfl h169 (fun _ => rfl) (fun _ => rfl) ?_
  obtain ⟨f6, e6⟩ : ∃ f6 : Nat → pE, f6 = wu f5 169 (.inr (5, [.ref 170, .ref 171, .ref 172, .int 0, .int 0])) := ⟨_, rfl⟩
  have h170 : f6 170 = .inl (0, 16, .inl (fun _ => 0)) := by rw [e6]; exact (wu_n (by decide)).trans h170
  have h171 : f6 171 = .inl (0, 16, .inl (fun _ => 0)) := by rw [e6]; exact (wu_n (by decide)).trans h171
  have h172 : f6 172 = .inl (3, 16, refs (rows_of 172 16)) := by rw [e6]; exact (wu_n (by decide)).trans h172
  have h173 : ∀ i, i < 16 → f6 (173 + i) = .inl (1, 24, .inr (.inl (fun _ => 0))) := fun i hi => by rw [e6]; exact (wu_n (by omega)).trans (h173 i hi)
  have h169 : f6 169 = .inr (5, [.ref 170, .ref 171, .ref 172, .int 0, .int 0]) := by rw [e6]; exact wu_s _ _ _
  have o6 : ∀ i, (i < 169 ∨ 170 ≤ i) → f6 i = f5 i := fun i h1 => by rw [e6]; exact wu_n (by omega)
  show PW _ _ _ _ _ _ (32, [(0, .ref 169)], [], (189, wu f5 169 (.inr (5, [.ref 170, .ref 171, .ref 172, .int 0, .int 0]))))
  rw [← e6]
  exact P_vret d_Past_init_32 rfl (le_b rfl) (le_b rfl) ⟨rfl, f6, rfl, fun i h1 h2 => by rw [o6 i (by omega), o5 i (by omega), o4 i (by omega), o3 i (by omega), o2 i (by omega), o1 i (by omega)], h170, h171, h172, h173, h169⟩
set_option maxRecDepth 20000 in
theorem c_Pairs_init {G : pG} (f : Nat → pE) (h189 : f 189 = .inr (6, [.null, .int 0, .int 0])) : PM G M_Pairs_init 1 257 2560 [.ref 189] (190, f) (fun r w' => r = none ∧ ∃ g : Nat → pE, w' = (447, g) ∧ (∀ i, i ≠ 189 → (i < 190 ∨ 447 ≤ i) → g i = f i) ∧ (g 190 = .inl (3, 256, refs (rows_of 190 256))) ∧ (∀ i, i < 256 → g (191 + i) = .inl (1, 9, .inr (.inl (fun _ => 0)))) ∧ (g 189 = .inr (6, [.ref 190, .int 0, .int 0]))) := by
  refine PM_of (by decide) (le_b rfl) ?_
  show PW _ _ _ _ _ _ (0, [(0, .ref 189)], [], (190, f))
  refine P_aload_n d_Pairs_init_0 rfl ?_
  refine P_objInit d_Pairs_init_1 L_Pairs_3 im_objInit cd_objInit ⟨le_b rfl, le_b rfl⟩ (le_b rfl) ?_
  refine P_aload_n d_Pairs_init_4 rfl ?_
  refine P_sipush (v := 256) d_Pairs_init_5 (by decide) ?_
  refine P_bipush (v := 9) d_Pairs_init_8 (by decide) ?_
  refine P_mnew (N := 256) (K := 9) d_Pairs_init_10 L_Pairs_9 ac_long ⟨by decide, by decide⟩ ⟨by decide, by decide⟩ (le_b rfl) (le_b rfl) (le_b rfl) (le_b rfl) (le_b rfl) ?_
  obtain ⟨f1, e1⟩ : ∃ f1 : Nat → pE, f1 = wr (wu f 190 (.inl (3, 256, refs (rows_of 190 256)))) 191 447 (.inl (1, 9, .inr (.inl (fun _ => 0)))) := ⟨_, rfl⟩
  have h189 : f1 189 = .inr (6, [.null, .int 0, .int 0]) := by rw [e1]; exact ((wr_out (by decide)).trans (wu_n (by decide))).trans h189
  have h190 : f1 190 = .inl (3, 256, refs (rows_of 190 256)) := by rw [e1]; exact (wr_out (by decide)).trans (wu_s _ _ _)
  have h191 : ∀ i, i < 256 → f1 (191 + i) = .inl (1, 9, .inr (.inl (fun _ => 0))) := by rw [e1]; exact fun i hi => wr_in (by omega) (by omega)
  have o1 : ∀ i, (i < 190 ∨ 447 ≤ i) → f1 i = f i := fun i h1 => by rw [e1]; exact (wr_out (by omega)).trans (wu_n (by omega))
  show PW _ _ _ _ _ _ (14, [(0, .ref 189)], [.ref 190, .ref 189], (447, wr (wu f 190 (.inl (3, 256, refs (rows_of 190 256)))) 191 447 (.inl (1, 9, .inr (.inl (fun _ => 0))))))
  rw [← e1]
  refine P_putF (i := 0) d_Pairs_init_14 ok_Pairs (by decide) rfl L_Pairs_11 rfl rfl h189 (fun _ => rfl) (fun _ => rfl) ?_
  obtain ⟨f2, e2⟩ : ∃ f2 : Nat → pE, f2 = wu f1 189 (.inr (6, [.ref 190, .int 0, .int 0])) := ⟨_, rfl⟩
  have h190 : f2 190 = .inl (3, 256, refs (rows_of 190 256)) := by rw [e2]; exact (wu_n (by decide)).trans h190
  have h191 : ∀ i, i < 256 → f2 (191 + i) = .inl (1, 9, .inr (.inl (fun _ => 0))) := fun i hi => by rw [e2]; exact (wu_n (by omega)).trans (h191 i hi)
  have h189 : f2 189 = .inr (6, [.ref 190, .int 0, .int 0]) := by rw [e2]; exact wu_s _ _ _
  have o2 : ∀ i, (i < 189 ∨ 190 ≤ i) → f2 i = f1 i := fun i h1 => by rw [e2]; exact wu_n (by omega)
  show PW _ _ _ _ _ _ (17, [(0, .ref 189)], [], (447, wu f1 189 (.inr (6, [.ref 190, .int 0, .int 0]))))
  rw [← e2]
  exact P_vret d_Pairs_init_17 rfl (le_b rfl) (le_b rfl) ⟨rfl, f2, rfl, fun i h1 h2 => by rw [o2 i (by omega), o1 i (by omega)], h190, h191, h189⟩
set_option maxRecDepth 20000 in
theorem c_ASB_init {G : pG} (f : Nat → pE) (h447 : f 447 = .inr (7, [.null, .int 0, .int 0, .int 0])) : PM G M_ASB_init 1 1 16 [.ref 447, .int 16] (448, f) (fun r w' => r = none ∧ ∃ g : Nat → pE, w' = (449, g) ∧ (∀ i, i ≠ 447 → (i < 448 ∨ 449 ≤ i) → g i = f i) ∧ (g 448 = .inl (2, 16, .inl (fun _ => 0))) ∧ (g 447 = .inr (7, [.ref 448, .int 0, .int 0, .int 0]))) := by
  refine PM_of (by decide) (le_b rfl) ?_
  show PW _ _ _ _ _ _ (0, [(0, .ref 447), (1, .int 16)], [], (448, f))
  refine P_aload_n d_ASB_init_0 rfl ?_
  refine P_objInit d_ASB_init_1 L_ASB_3 im_objInit cd_objInit ⟨le_b rfl, le_b rfl⟩ (le_b rfl) ?_
  refine P_getv ("java/lang/String", "COMPACT_STRINGS", "Z", .int 1) (List.mem_of_getElem? (i := 0) rfl) (fun _ => rfl) d_ASB_init_4 L_ASB_18 ?_
  refine P_if_eq 25 d_ASB_init_7 (by decide) (fun h => absurd h (by decide)) (fun _ => ?_)
  refine P_aload_n d_ASB_init_10 rfl ?_
  refine P_iload_n d_ASB_init_11 rfl ?_
  refine P_newarr (t := 2) (N := 16) (a0 := (16, .inl (fun _ => 0))) d_ASB_init_12 rfl (by decide) ac_byte ⟨by decide, by decide⟩ (le_b rfl) ⟨rfl, fun _ _ => rfl⟩ (le_b rfl) (le_b rfl) (le_b rfl) ?_
  obtain ⟨f1, e1⟩ : ∃ f1 : Nat → pE, f1 = wu f 448 (.inl (2, 16, .inl (fun _ => 0))) := ⟨_, rfl⟩
  have h447 : f1 447 = .inr (7, [.null, .int 0, .int 0, .int 0]) := by rw [e1]; exact (wu_n (by decide)).trans h447
  have h448 : f1 448 = .inl (2, 16, .inl (fun _ => 0)) := by rw [e1]; exact wu_s _ _ _
  have o1 : ∀ i, (i < 448 ∨ 449 ≤ i) → f1 i = f i := fun i h1 => by rw [e1]; exact wu_n (by omega)
  show PW _ _ _ _ _ _ (14, [(0, .ref 447), (1, .int 16)], [.ref 448, .ref 447], (449, wu f 448 (.inl (2, 16, .inl (fun _ => 0)))))
  rw [← e1]
  refine P_put (i := 0) d_ASB_init_14 ok_SB (by decide) rfl L_ASB_15 h447 (fun _ => rfl) (fun _ => rfl) ?_
  obtain ⟨f2, e2⟩ : ∃ f2 : Nat → pE, f2 = wu f1 447 (.inr (7, [.ref 448, .int 0, .int 0, .int 0])) := ⟨_, rfl⟩
  have h448 : f2 448 = .inl (2, 16, .inl (fun _ => 0)) := by rw [e2]; exact (wu_n (by decide)).trans h448
  have h447 : f2 447 = .inr (7, [.ref 448, .int 0, .int 0, .int 0]) := by rw [e2]; exact wu_s _ _ _
  have o2 : ∀ i, (i < 447 ∨ 448 ≤ i) → f2 i = f1 i := fun i h1 => by rw [e2]; exact wu_n (by omega)
  show PW _ _ _ _ _ _ (17, [(0, .ref 447), (1, .int 16)], [], (449, wu f1 447 (.inr (7, [.ref 448, .int 0, .int 0, .int 0]))))
  rw [← e2]
  refine P_aload_n d_ASB_init_17 rfl ?_
  refine P_iconst (v := 0) d_ASB_init_18 (by decide) ?_
  refine P_putS (i := 1) d_ASB_init_19 ok_SB (by decide) rfl L_ASB_22 h447 (fun _ => rfl) (fun _ => rfl) rfl ?_
  refine P_goto 38 d_ASB_init_22 (by decide) ?_
  exact P_vret d_ASB_init_38 rfl (le_b rfl) (le_b rfl) ⟨rfl, f2, rfl, fun i h1 h2 => by rw [o2 i (by omega), o1 i (by omega)], h448, h447⟩
set_option maxRecDepth 20000 in
theorem c_SB_init {G : pG} (f : Nat → pE) (h447 : f 447 = .inr (7, [.null, .int 0, .int 0, .int 0])) : PM G M_SB_init 2 1 16 [.ref 447] (448, f) (fun r w' => r = none ∧ ∃ g : Nat → pE, w' = (449, g) ∧ (∀ i, i ≠ 447 → (i < 448 ∨ 449 ≤ i) → g i = f i) ∧ (g 448 = .inl (2, 16, .inl (fun _ => 0))) ∧ (g 447 = .inr (7, [.ref 448, .int 0, .int 0, .int 0]))) := by
  refine PM_of (by decide) (le_b rfl) ?_
  show PW _ _ _ _ _ _ (0, [(0, .ref 447)], [], (448, f))
  refine P_aload_n d_SB_init_0 rfl ?_
  refine P_bipush (v := 16) d_SB_init_1 (by decide) ?_
  refine P_callI (as := [.int 16]) (b := 447) d_SB_init_3 co_ASB_init rfl rfl L_SB_1 im_ASB_init (c_ASB_init _ h447) rfl ⟨le_b rfl, le_b rfl⟩ ⟨le_b rfl, le_b rfl⟩ (le_b rfl) ?_ _ rfl
  rintro _ _ ⟨rfl, f1, rfl, o1, h448, h447⟩
  show PW _ _ _ _ _ _ (6, [(0, .ref 447)], [], (449, f1))
  exact P_vret d_SB_init_6 rfl (le_b rfl) (le_b rfl) ⟨rfl, f1, rfl, fun i h1 h2 => by rw [o1 i (by omega) (by omega)], h448, h447⟩
set_option maxRecDepth 20000 in
theorem c_CM_init {G : pG} (f : Nat → pE) (h0 : f 0 = .inr (8, [.null, .null, .null, .null, .null, .null, .null, .null, .null, .null, .null, .null, .null, .null, .null, .null, .null, .null])) : PM G M_CM_init 3 466 4765 [.ref 0] (1, f) (fun r w' => r = none ∧ ∃ g : Nat → pE, w' = (467, g) ∧ (∀ i, i ≠ 0 → (i < 1 ∨ 467 ≤ i) → g i = f i) ∧ (PlaneAt g 1 2) ∧ (PlaneAt g 77 78) ∧ (g 154 = .inl (0, 900, .inl (fun _ => 0))) ∧ (g 153 = .inr (2, [.ref 154, .int 0])) ∧ (g 156 = .inl (1, 9, .inr (.inl (fun _ => 0)))) ∧ (g 157 = .inl (1, 9, .inr (.inl (fun _ => 0)))) ∧ (QuadAt g 158 159) ∧ (g 155 = .inr (3, [.ref 156, .ref 157, .ref 158])) ∧ (g 165 = .inl (0, 8, .inl (fun _ => 0))) ∧ (g 166 = .inl (0, 8, .inl (fun _ => 0))) ∧ (g 167 = .inl (1, 3, .inr (.inl (fun _ => 0)))) ∧ (g 168 = .inl (1, 9, .inr (.inl (fun _ => 0)))) ∧ (g 164 = .inr (4, [.ref 153, .ref 155, .ref 165, .ref 166, .ref 167, .ref 168, .ref 77, .int 0, .int 0, .int 0, .int 0, .int 0, .int 0, .int (-1)])) ∧ (g 170 = .inl (0, 16, .inl (fun _ => 0))) ∧ (g 171 = .inl (0, 16, .inl (fun _ => 0))) ∧ (g 172 = .inl (3, 16, refs (rows_of 172 16))) ∧ (∀ i, i < 16 → g (173 + i) = .inl (1, 24, .inr (.inl (fun _ => 0)))) ∧ (g 169 = .inr (5, [.ref 170, .ref 171, .ref 172, .int 0, .int 0])) ∧ (g 190 = .inl (3, 256, refs (rows_of 190 256))) ∧ (∀ i, i < 256 → g (191 + i) = .inl (1, 9, .inr (.inl (fun _ => 0)))) ∧ (g 189 = .inr (6, [.ref 190, .int 0, .int 0])) ∧ (g 448 = .inl (2, 16, .inl (fun _ => 0))) ∧ (g 447 = .inr (7, [.ref 448, .int 0, .int 0, .int 0])) ∧ (g 449 = .inl (1, 9, .inr (.inl (fun _ => 0)))) ∧ (g 450 = .inl (1, 9, .inr (.inl (fun _ => 0)))) ∧ (g 451 = .inl (1, 9, .inr (.inl (fun _ => 0)))) ∧ (g 452 = .inl (1, 3, .inr (.inl (fun _ => 0)))) ∧ (g 453 = .inl (1, 3, .inr (.inl (fun _ => 0)))) ∧ (g 454 = .inl (1, 3, .inr (.inl (fun _ => 0)))) ∧ (g 455 = .inl (1, 3, .inr (.inl (fun _ => 0)))) ∧ (g 456 = .inl (1, 3, .inr (.inl (fun _ => 0)))) ∧ (g 457 = .inl (3, 8, refs (rows_of 457 8))) ∧ (∀ i, i < 8 → g (458 + i) = .inl (1, 3, .inr (.inl (fun _ => 0)))) ∧ (g 466 = .inl (0, 3, .inl (fun _ => 0))) ∧ (g 0 = .inr (8, [.ref 1, .ref 77, .ref 153, .ref 164, .ref 169, .ref 155, .ref 189, .ref 447, .ref 449, .ref 450, .ref 451, .ref 452, .ref 453, .ref 454, .ref 455, .ref 456, .ref 457, .ref 466]))) := by
  refine PM_of (by decide) (le_b rfl) ?_
  show PW _ _ _ _ _ _ (0, [(0, .ref 0)], [], (1, f))
  refine P_aload_n d_CM_init_0 rfl ?_
  refine P_objInit d_CM_init_1 L_CM_3 im_objInit cd_objInit ⟨le_b rfl, le_b rfl⟩ (le_b rfl) ?_
  refine P_aload_n d_CM_init_4 rfl ?_
  refine P_new (fs := [.null, .null, .null, .int 0, .int 0, .int 0, .int 0]) d_CM_init_5 ok_Plane L_CM_9 in_Plane.1 in_Plane.2 rfl (fun j hj => by rcases (show j = 0 ∨ j = 1 ∨ j = 2 ∨ j = 3 ∨ j = 4 ∨ j = 5 ∨ j = 6 by omega) with rfl | rfl | rfl | rfl | rfl | rfl | rfl <;> rfl) (fun _ => rfl) (le_b rfl) (le_b rfl) (le_b rfl) ?_
  obtain ⟨f1, e1⟩ : ∃ f1 : Nat → pE, f1 = wu f 1 (.inr (1, [.null, .null, .null, .int 0, .int 0, .int 0, .int 0])) := ⟨_, rfl⟩
  have h0 : f1 0 = .inr (8, [.null, .null, .null, .null, .null, .null, .null, .null, .null, .null, .null, .null, .null, .null, .null, .null, .null, .null]) := by rw [e1]; exact (wu_n (by decide)).trans h0
  have h1 : f1 1 = .inr (1, [.null, .null, .null, .int 0, .int 0, .int 0, .int 0]) := by rw [e1]; exact wu_s _ _ _
  have o1 : ∀ i, (i < 1 ∨ 2 ≤ i) → f1 i = f i := fun i h1 => by rw [e1]; exact wu_n (by omega)
  show PW _ _ _ _ _ _ (8, [(0, .ref 0)], [.ref 1, .ref 0], (2, wu f 1 (.inr (1, [.null, .null, .null, .int 0, .int 0, .int 0, .int 0]))))
  rw [← e1]
  refine P_dup d_CM_init_8 rfl ?_
  refine P_callI (as := []) (b := 1) d_CM_init_9 co_Plane_init rfl rfl L_CM_11 im_Plane_init (c_Plane_init 1 2 _ h1 (le_b rfl) (by decide)) rfl ⟨le_b rfl, le_b rfl⟩ ⟨le_b rfl, le_b rfl⟩ (le_b rfl) ?_ _ rfl
  rintro _ _ ⟨rfl, f2, rfl, o2, p1⟩
  have h0 : f2 0 = .inr (8, [.null, .null, .null, .null, .null, .null, .null, .null, .null, .null, .null, .null, .null, .null, .null, .null, .null, .null]) := (o2 _ (by decide) (by decide)).trans h0
  show PW _ _ _ _ _ _ (12, [(0, .ref 0)], [.ref 1, .ref 0], (77, f2))
  refine P_put (i := 0) d_CM_init_12 ok_CM (by decide) rfl L_CM_12 h0 (fun _ => rfl) (fun _ => rfl) ?_
  obtain ⟨f3, e3⟩ : ∃ f3 : Nat → pE, f3 = wu f2 0 (.inr (8, [.ref 1, .null, .null, .null, .null, .null, .null, .null, .null, .null, .null, .null, .null, .null, .null, .null, .null, .null])) := ⟨_, rfl⟩
  have p1 : PlaneAt f3 1 2 := p1.kept (by rw [e3]; exact wu_n (by decide)) (fun i h1 h2 => by rw [e3]; exact wu_n (by omega))
  have h0 : f3 0 = .inr (8, [.ref 1, .null, .null, .null, .null, .null, .null, .null, .null, .null, .null, .null, .null, .null, .null, .null, .null, .null]) := by rw [e3]; exact wu_s _ _ _
  have o3 : ∀ i, (i < 0 ∨ 1 ≤ i) → f3 i = f2 i := fun i h1 => by rw [e3]; exact wu_n (by omega)
  show PW _ _ _ _ _ _ (15, [(0, .ref 0)], [], (77, wu f2 0 (.inr (8, [.ref 1, .null, .null, .null, .null, .null, .null, .null, .null, .null, .null, .null, .null, .null, .null, .null, .null, .null]))))
  rw [← e3]
  refine P_aload_n d_CM_init_15 rfl ?_
  refine P_new (fs := [.null, .null, .null, .int 0, .int 0, .int 0, .int 0]) d_CM_init_16 ok_Plane L_CM_9 in_Plane.1 in_Plane.2 rfl (fun j hj => by rcases (show j = 0 ∨ j = 1 ∨ j = 2 ∨ j = 3 ∨ j = 4 ∨ j = 5 ∨ j = 6 by omega) with rfl | rfl | rfl | rfl | rfl | rfl | rfl <;> rfl) (fun _ => rfl) (le_b rfl) (le_b rfl) (le_b rfl) ?_
  obtain ⟨f4, e4⟩ : ∃ f4 : Nat → pE, f4 = wu f3 77 (.inr (1, [.null, .null, .null, .int 0, .int 0, .int 0, .int 0])) := ⟨_, rfl⟩
  have p1 : PlaneAt f4 1 2 := p1.kept (by rw [e4]; exact wu_n (by decide)) (fun i h1 h2 => by rw [e4]; exact wu_n (by omega))
  have h0 : f4 0 = .inr (8, [.ref 1, .null, .null, .null, .null, .null, .null, .null, .null, .null, .null, .null, .null, .null, .null, .null, .null, .null]) := by rw [e4]; exact (wu_n (by decide)).trans h0
  have h77 : f4 77 = .inr (1, [.null, .null, .null, .int 0, .int 0, .int 0, .int 0]) := by rw [e4]; exact wu_s _ _ _
  have o4 : ∀ i, (i < 77 ∨ 78 ≤ i) → f4 i = f3 i := fun i h1 => by rw [e4]; exact wu_n (by omega)
  show PW _ _ _ _ _ _ (19, [(0, .ref 0)], [.ref 77, .ref 0], (78, wu f3 77 (.inr (1, [.null, .null, .null, .int 0, .int 0, .int 0, .int 0]))))
  rw [← e4]
  refine P_dup d_CM_init_19 rfl ?_
  refine P_callI (as := []) (b := 77) d_CM_init_20 co_Plane_init rfl rfl L_CM_11 im_Plane_init (c_Plane_init 77 78 _ h77 (le_b rfl) (by decide)) rfl ⟨le_b rfl, le_b rfl⟩ ⟨le_b rfl, le_b rfl⟩ (le_b rfl) ?_ _ rfl
  rintro _ _ ⟨rfl, f5, rfl, o5, p77⟩
  have p1 : PlaneAt f5 1 2 := p1.kept (o5 _ (by decide) (by decide)) (fun i h1 h2 => o5 i (by omega) (by omega))
  have h0 : f5 0 = .inr (8, [.ref 1, .null, .null, .null, .null, .null, .null, .null, .null, .null, .null, .null, .null, .null, .null, .null, .null, .null]) := (o5 _ (by decide) (by decide)).trans h0
  show PW _ _ _ _ _ _ (23, [(0, .ref 0)], [.ref 77, .ref 0], (153, f5))
  refine P_put (i := 1) d_CM_init_23 ok_CM (by decide) rfl L_CM_18 h0 (fun _ => rfl) (fun _ => rfl) ?_
  obtain ⟨f6, e6⟩ : ∃ f6 : Nat → pE, f6 = wu f5 0 (.inr (8, [.ref 1, .ref 77, .null, .null, .null, .null, .null, .null, .null, .null, .null, .null, .null, .null, .null, .null, .null, .null])) := ⟨_, rfl⟩
  have p1 : PlaneAt f6 1 2 := p1.kept (by rw [e6]; exact wu_n (by decide)) (fun i h1 h2 => by rw [e6]; exact wu_n (by omega))
  have p77 : PlaneAt f6 77 78 := p77.kept (by rw [e6]; exact wu_n (by decide)) (fun i h1 h2 => by rw [e6]; exact wu_n (by omega))
  have h0 : f6 0 = .inr (8, [.ref 1, .ref 77, .null, .null, .null, .null, .null, .null, .null, .null, .null, .null, .null, .null, .null, .null, .null, .null]) := by rw [e6]; exact wu_s _ _ _
  have o6 : ∀ i, (i < 0 ∨ 1 ≤ i) → f6 i = f5 i := fun i h1 => by rw [e6]; exact wu_n (by omega)
  show PW _ _ _ _ _ _ (26, [(0, .ref 0)], [], (153, wu f5 0 (.inr (8, [.ref 1, .ref 77, .null, .null, .null, .null, .null, .null, .null, .null, .null, .null, .null, .null, .null, .null, .null, .null]))))
  rw [← e6]
  refine P_aload_n d_CM_init_26 rfl ?_
  refine P_new (fs := [.null, .int 0]) d_CM_init_27 ok_Tape L_CM_21 in_Tape.1 in_Tape.2 rfl (fun j hj => by rcases (show j = 0 ∨ j = 1 by omega) with rfl | rfl <;> rfl) (fun _ => rfl) (le_b rfl) (le_b rfl) (le_b rfl) ?_
  obtain ⟨f7, e7⟩ : ∃ f7 : Nat → pE, f7 = wu f6 153 (.inr (2, [.null, .int 0])) := ⟨_, rfl⟩
  have p1 : PlaneAt f7 1 2 := p1.kept (by rw [e7]; exact wu_n (by decide)) (fun i h1 h2 => by rw [e7]; exact wu_n (by omega))
  have p77 : PlaneAt f7 77 78 := p77.kept (by rw [e7]; exact wu_n (by decide)) (fun i h1 h2 => by rw [e7]; exact wu_n (by omega))
  have h0 : f7 0 = .inr (8, [.ref 1, .ref 77, .null, .null, .null, .null, .null, .null, .null, .null, .null, .null, .null, .null, .null, .null, .null, .null]) := by rw [e7]; exact (wu_n (by decide)).trans h0
  have h153 : f7 153 = .inr (2, [.null, .int 0]) := by rw [e7]; exact wu_s _ _ _
  have o7 : ∀ i, (i < 153 ∨ 154 ≤ i) → f7 i = f6 i := fun i h1 => by rw [e7]; exact wu_n (by omega)
  show PW _ _ _ _ _ _ (30, [(0, .ref 0)], [.ref 153, .ref 0], (154, wu f6 153 (.inr (2, [.null, .int 0]))))
  rw [← e7]
  refine P_dup d_CM_init_30 rfl ?_
  refine P_callIN (as := []) (b := 153) d_CM_init_31 co_Tape_init rfl rfl L_CM_23 im_Tape_init (c_Tape_init _ h153) rfl ⟨le_b rfl, le_b rfl⟩ ⟨le_b rfl, le_b rfl⟩ (le_b rfl) ?_ _ rfl
  rintro _ _ ⟨rfl, f8, rfl, o8, h154, h153⟩
  have p1 : PlaneAt f8 1 2 := p1.kept (o8 _ (by decide) (by decide)) (fun i h1 h2 => o8 i (by omega) (by omega))
  have p77 : PlaneAt f8 77 78 := p77.kept (o8 _ (by decide) (by decide)) (fun i h1 h2 => o8 i (by omega) (by omega))
  have h0 : f8 0 = .inr (8, [.ref 1, .ref 77, .null, .null, .null, .null, .null, .null, .null, .null, .null, .null, .null, .null, .null, .null, .null, .null]) := (o8 _ (by decide) (by decide)).trans h0
  show PW _ _ _ _ _ _ (34, [(0, .ref 0)], [.ref 153, .ref 0], (155, f8))
  refine P_putF (i := 2) d_CM_init_34 ok_CM (by decide) rfl L_CM_24 rfl rfl h0 (fun _ => rfl) (fun _ => rfl) ?_
  obtain ⟨f9, e9⟩ : ∃ f9 : Nat → pE, f9 = wu f8 0 (.inr (8, [.ref 1, .ref 77, .ref 153, .null, .null, .null, .null, .null, .null, .null, .null, .null, .null, .null, .null, .null, .null, .null])) := ⟨_, rfl⟩
  have p1 : PlaneAt f9 1 2 := p1.kept (by rw [e9]; exact wu_n (by decide)) (fun i h1 h2 => by rw [e9]; exact wu_n (by omega))
  have p77 : PlaneAt f9 77 78 := p77.kept (by rw [e9]; exact wu_n (by decide)) (fun i h1 h2 => by rw [e9]; exact wu_n (by omega))
  have h154 : f9 154 = .inl (0, 900, .inl (fun _ => 0)) := by rw [e9]; exact (wu_n (by decide)).trans h154
  have h153 : f9 153 = .inr (2, [.ref 154, .int 0]) := by rw [e9]; exact (wu_n (by decide)).trans h153
  have h0 : f9 0 = .inr (8, [.ref 1, .ref 77, .ref 153, .null, .null, .null, .null, .null, .null, .null, .null, .null, .null, .null, .null, .null, .null, .null]) := by rw [e9]; exact wu_s _ _ _
  have o9 : ∀ i, (i < 0 ∨ 1 ≤ i) → f9 i = f8 i := fun i h1 => by rw [e9]; exact wu_n (by omega)
  show PW _ _ _ _ _ _ (37, [(0, .ref 0)], [], (155, wu f8 0 (.inr (8, [.ref 1, .ref 77, .ref 153, .null, .null, .null, .null, .null, .null, .null, .null, .null, .null, .null, .null, .null, .null, .null]))))
  rw [← e9]
  refine P_aload_n d_CM_init_37 rfl ?_
  refine P_new (fs := [.null, .null, .null]) d_CM_init_38 ok_Maker L_CM_28 in_Maker.1 in_Maker.2 rfl (fun j hj => by rcases (show j = 0 ∨ j = 1 ∨ j = 2 by omega) with rfl | rfl | rfl <;> rfl) (fun _ => rfl) (le_b rfl) (le_b rfl) (le_b rfl) ?_
  obtain ⟨f10, e10⟩ : ∃ f10 : Nat → pE, f10 = wu f9 155 (.inr (3, [.null, .null, .null])) := ⟨_, rfl⟩
  have p1 : PlaneAt f10 1 2 := p1.kept (by rw [e10]; exact wu_n (by decide)) (fun i h1 h2 => by rw [e10]; exact wu_n (by omega))
  have p77 : PlaneAt f10 77 78 := p77.kept (by rw [e10]; exact wu_n (by decide)) (fun i h1 h2 => by rw [e10]; exact wu_n (by omega))
  have h154 : f10 154 = .inl (0, 900, .inl (fun _ => 0)) := by rw [e10]; exact (wu_n (by decide)).trans h154
  have h153 : f10 153 = .inr (2, [.ref 154, .int 0]) := by rw [e10]; exact (wu_n (by decide)).trans h153
  have h0 : f10 0 = .inr (8, [.ref 1, .ref 77, .ref 153, .null, .null, .null, .null, .null, .null, .null, .null, .null, .null, .null, .null, .null, .null, .null]) := by rw [e10]; exact (wu_n (by decide)).trans h0
  have h155 : f10 155 = .inr (3, [.null, .null, .null]) := by rw [e10]; exact wu_s _ _ _
  have o10 : ∀ i, (i < 155 ∨ 156 ≤ i) → f10 i = f9 i := fun i h1 => by rw [e10]; exact wu_n (by omega)
  show PW _ _ _ _ _ _ (41, [(0, .ref 0)], [.ref 155, .ref 0], (156, wu f9 155 (.inr (3, [.null, .null, .null]))))
  rw [← e10]
  refine P_dup d_CM_init_41 rfl ?_
  refine P_callIN (as := []) (b := 155) d_CM_init_42 co_Maker_init rfl rfl L_CM_30 im_Maker_init (c_Maker_init _ h155) rfl ⟨le_b rfl, le_b rfl⟩ ⟨le_b rfl, le_b rfl⟩ (le_b rfl) ?_ _ rfl
  rintro _ _ ⟨rfl, f11, rfl, o11, h156, h157, p158, h155⟩
  have p1 : PlaneAt f11 1 2 := p1.kept (o11 _ (by decide) (by decide)) (fun i h1 h2 => o11 i (by omega) (by omega))
  have p77 : PlaneAt f11 77 78 := p77.kept (o11 _ (by decide) (by decide)) (fun i h1 h2 => o11 i (by omega) (by omega))
  have h154 : f11 154 = .inl (0, 900, .inl (fun _ => 0)) := (o11 _ (by decide) (by decide)).trans h154
  have h153 : f11 153 = .inr (2, [.ref 154, .int 0]) := (o11 _ (by decide) (by decide)).trans h153
  have h0 : f11 0 = .inr (8, [.ref 1, .ref 77, .ref 153, .null, .null, .null, .null, .null, .null, .null, .null, .null, .null, .null, .null, .null, .null, .null]) := (o11 _ (by decide) (by decide)).trans h0
  show PW _ _ _ _ _ _ (45, [(0, .ref 0)], [.ref 155, .ref 0], (164, f11))
  refine P_putF (i := 5) d_CM_init_45 ok_CM (by decide) rfl L_CM_31 rfl rfl h0 (fun _ => rfl) (fun _ => rfl) ?_
  obtain ⟨f12, e12⟩ : ∃ f12 : Nat → pE, f12 = wu f11 0 (.inr (8, [.ref 1, .ref 77, .ref 153, .null, .null, .ref 155, .null, .null, .null, .null, .null, .null, .null, .null, .null, .null, .null, .null])) := ⟨_, rfl⟩
  have p1 : PlaneAt f12 1 2 := p1.kept (by rw [e12]; exact wu_n (by decide)) (fun i h1 h2 => by rw [e12]; exact wu_n (by omega))
  have p77 : PlaneAt f12 77 78 := p77.kept (by rw [e12]; exact wu_n (by decide)) (fun i h1 h2 => by rw [e12]; exact wu_n (by omega))
  have h154 : f12 154 = .inl (0, 900, .inl (fun _ => 0)) := by rw [e12]; exact (wu_n (by decide)).trans h154
  have h153 : f12 153 = .inr (2, [.ref 154, .int 0]) := by rw [e12]; exact (wu_n (by decide)).trans h153
  have h156 : f12 156 = .inl (1, 9, .inr (.inl (fun _ => 0))) := by rw [e12]; exact (wu_n (by decide)).trans h156
  have h157 : f12 157 = .inl (1, 9, .inr (.inl (fun _ => 0))) := by rw [e12]; exact (wu_n (by decide)).trans h157
  have p158 : QuadAt f12 158 159 := p158.kept (by rw [e12]; exact wu_n (by decide)) (fun i h1 h2 => by rw [e12]; exact wu_n (by omega))
  have h155 : f12 155 = .inr (3, [.ref 156, .ref 157, .ref 158]) := by rw [e12]; exact (wu_n (by decide)).trans h155
  have h0 : f12 0 = .inr (8, [.ref 1, .ref 77, .ref 153, .null, .null, .ref 155, .null, .null, .null, .null, .null, .null, .null, .null, .null, .null, .null, .null]) := by rw [e12]; exact wu_s _ _ _
  have o12 : ∀ i, (i < 0 ∨ 1 ≤ i) → f12 i = f11 i := fun i h1 => by rw [e12]; exact wu_n (by omega)
  show PW _ _ _ _ _ _ (48, [(0, .ref 0)], [], (164, wu f11 0 (.inr (8, [.ref 1, .ref 77, .ref 153, .null, .null, .ref 155, .null, .null, .null, .null, .null, .null, .null, .null, .null, .null, .null, .null]))))
  rw [← e12]
  refine P_aload_n d_CM_init_48 rfl ?_
  refine P_new (fs := [.null, .null, .null, .null, .null, .null, .null, .int 0, .int 0, .int 0, .int 0, .int 0, .int 0, .int 0]) d_CM_init_49 ok_Reader L_CM_35 in_Reader.1 in_Reader.2 rfl (fun j hj => by rcases (show j = 0 ∨ j = 1 ∨ j = 2 ∨ j = 3 ∨ j = 4 ∨ j = 5 ∨ j = 6 ∨ j = 7 ∨ j = 8 ∨ j = 9 ∨ j = 10 ∨ j = 11 ∨ j = 12 ∨ j = 13 by omega) with rfl | rfl | rfl | rfl | rfl | rfl | rfl | rfl | rfl | rfl | rfl | rfl | rfl | rfl <;> rfl) (fun _ => rfl) (le_b rfl) (le_b rfl) (le_b rfl) ?_
  obtain ⟨f13, e13⟩ : ∃ f13 : Nat → pE, f13 = wu f12 164 (.inr (4, [.null, .null, .null, .null, .null, .null, .null, .int 0, .int 0, .int 0, .int 0, .int 0, .int 0, .int 0])) := ⟨_, rfl⟩
  have p1 : PlaneAt f13 1 2 := p1.kept (by rw [e13]; exact wu_n (by decide)) (fun i h1 h2 => by rw [e13]; exact wu_n (by omega))
  have p77 : PlaneAt f13 77 78 := p77.kept (by rw [e13]; exact wu_n (by decide)) (fun i h1 h2 => by rw [e13]; exact wu_n (by omega))
  have h154 : f13 154 = .inl (0, 900, .inl (fun _ => 0)) := by rw [e13]; exact (wu_n (by decide)).trans h154
  have h153 : f13 153 = .inr (2, [.ref 154, .int 0]) := by rw [e13]; exact (wu_n (by decide)).trans h153
  have h156 : f13 156 = .inl (1, 9, .inr (.inl (fun _ => 0))) := by rw [e13]; exact (wu_n (by decide)).trans h156
  have h157 : f13 157 = .inl (1, 9, .inr (.inl (fun _ => 0))) := by rw [e13]; exact (wu_n (by decide)).trans h157
  have p158 : QuadAt f13 158 159 := p158.kept (by rw [e13]; exact wu_n (by decide)) (fun i h1 h2 => by rw [e13]; exact wu_n (by omega))
  have h155 : f13 155 = .inr (3, [.ref 156, .ref 157, .ref 158]) := by rw [e13]; exact (wu_n (by decide)).trans h155
  have h0 : f13 0 = .inr (8, [.ref 1, .ref 77, .ref 153, .null, .null, .ref 155, .null, .null, .null, .null, .null, .null, .null, .null, .null, .null, .null, .null]) := by rw [e13]; exact (wu_n (by decide)).trans h0
  have h164 : f13 164 = .inr (4, [.null, .null, .null, .null, .null, .null, .null, .int 0, .int 0, .int 0, .int 0, .int 0, .int 0, .int 0]) := by rw [e13]; exact wu_s _ _ _
  have o13 : ∀ i, (i < 164 ∨ 165 ≤ i) → f13 i = f12 i := fun i h1 => by rw [e13]; exact wu_n (by omega)
  show PW _ _ _ _ _ _ (52, [(0, .ref 0)], [.ref 164, .ref 0], (165, wu f12 164 (.inr (4, [.null, .null, .null, .null, .null, .null, .null, .int 0, .int 0, .int 0, .int 0, .int 0, .int 0, .int 0]))))
  rw [← e13]
  refine P_dup d_CM_init_52 rfl ?_
  refine P_aload_n d_CM_init_53 rfl ?_
  refine P_getf (i := 2) d_CM_init_54 ok_CM (by decide) L_CM_24 h0 rfl ?_
  refine P_aload_n d_CM_init_57 rfl ?_
  refine P_getf (i := 5) d_CM_init_58 ok_CM (by decide) L_CM_31 h0 rfl ?_
  refine P_aload_n d_CM_init_61 rfl ?_
  refine P_getf (i := 1) d_CM_init_62 ok_CM (by decide) L_CM_18 h0 rfl ?_
  refine P_callI (as := [.ref 153, .ref 155, .ref 77]) (b := 164) d_CM_init_65 co_Reader_init rfl rfl L_CM_37 im_Reader_init (c_Reader_init _ h164) rfl ⟨le_b rfl, le_b rfl⟩ ⟨le_b rfl, le_b rfl⟩ (le_b rfl) ?_ _ rfl
  rintro _ _ ⟨rfl, f14, rfl, o14, h165, h166, h167, h168, h164⟩
  have p1 : PlaneAt f14 1 2 := p1.kept (o14 _ (by decide) (by decide)) (fun i h1 h2 => o14 i (by omega) (by omega))
  have p77 : PlaneAt f14 77 78 := p77.kept (o14 _ (by decide) (by decide)) (fun i h1 h2 => o14 i (by omega) (by omega))
  have h154 : f14 154 = .inl (0, 900, .inl (fun _ => 0)) := (o14 _ (by decide) (by decide)).trans h154
  have h153 : f14 153 = .inr (2, [.ref 154, .int 0]) := (o14 _ (by decide) (by decide)).trans h153
  have h156 : f14 156 = .inl (1, 9, .inr (.inl (fun _ => 0))) := (o14 _ (by decide) (by decide)).trans h156
  have h157 : f14 157 = .inl (1, 9, .inr (.inl (fun _ => 0))) := (o14 _ (by decide) (by decide)).trans h157
  have p158 : QuadAt f14 158 159 := p158.kept (o14 _ (by decide) (by decide)) (fun i h1 h2 => o14 i (by omega) (by omega))
  have h155 : f14 155 = .inr (3, [.ref 156, .ref 157, .ref 158]) := (o14 _ (by decide) (by decide)).trans h155
  have h0 : f14 0 = .inr (8, [.ref 1, .ref 77, .ref 153, .null, .null, .ref 155, .null, .null, .null, .null, .null, .null, .null, .null, .null, .null, .null, .null]) := (o14 _ (by decide) (by decide)).trans h0
  show PW _ _ _ _ _ _ (68, [(0, .ref 0)], [.ref 164, .ref 0], (169, f14))
  refine P_putF (i := 3) d_CM_init_68 ok_CM (by decide) rfl L_CM_40 rfl rfl h0 (fun _ => rfl) (fun _ => rfl) ?_
  obtain ⟨f15, e15⟩ : ∃ f15 : Nat → pE, f15 = wu f14 0 (.inr (8, [.ref 1, .ref 77, .ref 153, .ref 164, .null, .ref 155, .null, .null, .null, .null, .null, .null, .null, .null, .null, .null, .null, .null])) := ⟨_, rfl⟩
  have p1 : PlaneAt f15 1 2 := p1.kept (by rw [e15]; exact wu_n (by decide)) (fun i h1 h2 => by rw [e15]; exact wu_n (by omega))
  have p77 : PlaneAt f15 77 78 := p77.kept (by rw [e15]; exact wu_n (by decide)) (fun i h1 h2 => by rw [e15]; exact wu_n (by omega))
  have h154 : f15 154 = .inl (0, 900, .inl (fun _ => 0)) := by rw [e15]; exact (wu_n (by decide)).trans h154
  have h153 : f15 153 = .inr (2, [.ref 154, .int 0]) := by rw [e15]; exact (wu_n (by decide)).trans h153
  have h156 : f15 156 = .inl (1, 9, .inr (.inl (fun _ => 0))) := by rw [e15]; exact (wu_n (by decide)).trans h156
  have h157 : f15 157 = .inl (1, 9, .inr (.inl (fun _ => 0))) := by rw [e15]; exact (wu_n (by decide)).trans h157
  have p158 : QuadAt f15 158 159 := p158.kept (by rw [e15]; exact wu_n (by decide)) (fun i h1 h2 => by rw [e15]; exact wu_n (by omega))
  have h155 : f15 155 = .inr (3, [.ref 156, .ref 157, .ref 158]) := by rw [e15]; exact (wu_n (by decide)).trans h155
  have h165 : f15 165 = .inl (0, 8, .inl (fun _ => 0)) := by rw [e15]; exact (wu_n (by decide)).trans h165
  have h166 : f15 166 = .inl (0, 8, .inl (fun _ => 0)) := by rw [e15]; exact (wu_n (by decide)).trans h166
  have h167 : f15 167 = .inl (1, 3, .inr (.inl (fun _ => 0))) := by rw [e15]; exact (wu_n (by decide)).trans h167
  have h168 : f15 168 = .inl (1, 9, .inr (.inl (fun _ => 0))) := by rw [e15]; exact (wu_n (by decide)).trans h168
  have h164 : f15 164 = .inr (4, [.ref 153, .ref 155, .ref 165, .ref 166, .ref 167, .ref 168, .ref 77, .int 0, .int 0, .int 0, .int 0, .int 0, .int 0, .int (-1)]) := by rw [e15]; exact (wu_n (by decide)).trans h164
  have h0 : f15 0 = .inr (8, [.ref 1, .ref 77, .ref 153, .ref 164, .null, .ref 155, .null, .null, .null, .null, .null, .null, .null, .null, .null, .null, .null, .null]) := by rw [e15]; exact wu_s _ _ _
  have o15 : ∀ i, (i < 0 ∨ 1 ≤ i) → f15 i = f14 i := fun i h1 => by rw [e15]; exact wu_n (by omega)
  show PW _ _ _ _ _ _ (71, [(0, .ref 0)], [], (169, wu f14 0 (.inr (8, [.ref 1, .ref 77, .ref 153, .ref 164, .null, .ref 155, .null, .null, .null, .null, .null, .null, .null, .null, .null, .null, .null, .null]))))
  rw [← e15]
  refine P_aload_n d_CM_init_71 rfl ?_
  refine P_new (fs := [.null, .null, .null, .int 0, .int 0]) d_CM_init_72 ok_Past L_CM_44 in_Past.1 in_Past.2 rfl (fun j hj => by rcases (show j = 0 ∨ j = 1 ∨ j = 2 ∨ j = 3 ∨ j = 4 by omega) with rfl | rfl | rfl | rfl | rfl <;> rfl) (fun _ => rfl) (le_b rfl) (le_b rfl) (le_b rfl) ?_
  obtain ⟨f16, e16⟩ : ∃ f16 : Nat → pE, f16 = wu f15 169 (.inr (5, [.null, .null, .null, .int 0, .int 0])) := ⟨_, rfl⟩
  have p1 : PlaneAt f16 1 2 := p1.kept (by rw [e16]; exact wu_n (by decide)) (fun i h1 h2 => by rw [e16]; exact wu_n (by omega))
  have p77 : PlaneAt f16 77 78 := p77.kept (by rw [e16]; exact wu_n (by decide)) (fun i h1 h2 => by rw [e16]; exact wu_n (by omega))
  have h154 : f16 154 = .inl (0, 900, .inl (fun _ => 0)) := by rw [e16]; exact (wu_n (by decide)).trans h154
  have h153 : f16 153 = .inr (2, [.ref 154, .int 0]) := by rw [e16]; exact (wu_n (by decide)).trans h153
  have h156 : f16 156 = .inl (1, 9, .inr (.inl (fun _ => 0))) := by rw [e16]; exact (wu_n (by decide)).trans h156
  have h157 : f16 157 = .inl (1, 9, .inr (.inl (fun _ => 0))) := by rw [e16]; exact (wu_n (by decide)).trans h157
  have p158 : QuadAt f16 158 159 := p158.kept (by rw [e16]; exact wu_n (by decide)) (fun i h1 h2 => by rw [e16]; exact wu_n (by omega))
  have h155 : f16 155 = .inr (3, [.ref 156, .ref 157, .ref 158]) := by rw [e16]; exact (wu_n (by decide)).trans h155
  have h165 : f16 165 = .inl (0, 8, .inl (fun _ => 0)) := by rw [e16]; exact (wu_n (by decide)).trans h165
  have h166 : f16 166 = .inl (0, 8, .inl (fun _ => 0)) := by rw [e16]; exact (wu_n (by decide)).trans h166
  have h167 : f16 167 = .inl (1, 3, .inr (.inl (fun _ => 0))) := by rw [e16]; exact (wu_n (by decide)).trans h167
  have h168 : f16 168 = .inl (1, 9, .inr (.inl (fun _ => 0))) := by rw [e16]; exact (wu_n (by decide)).trans h168
  have h164 : f16 164 = .inr (4, [.ref 153, .ref 155, .ref 165, .ref 166, .ref 167, .ref 168, .ref 77, .int 0, .int 0, .int 0, .int 0, .int 0, .int 0, .int (-1)]) := by rw [e16]; exact (wu_n (by decide)).trans h164
  have h0 : f16 0 = .inr (8, [.ref 1, .ref 77, .ref 153, .ref 164, .null, .ref 155, .null, .null, .null, .null, .null, .null, .null, .null, .null, .null, .null, .null]) := by rw [e16]; exact (wu_n (by decide)).trans h0
  have h169 : f16 169 = .inr (5, [.null, .null, .null, .int 0, .int 0]) := by rw [e16]; exact wu_s _ _ _
  have o16 : ∀ i, (i < 169 ∨ 170 ≤ i) → f16 i = f15 i := fun i h1 => by rw [e16]; exact wu_n (by omega)
  show PW _ _ _ _ _ _ (75, [(0, .ref 0)], [.ref 169, .ref 0], (170, wu f15 169 (.inr (5, [.null, .null, .null, .int 0, .int 0]))))
  rw [← e16]
  refine P_dup d_CM_init_75 rfl ?_
  refine P_callIN (as := []) (b := 169) d_CM_init_76 co_Past_init rfl rfl L_CM_46 im_Past_init (c_Past_init _ h169) rfl ⟨le_b rfl, le_b rfl⟩ ⟨le_b rfl, le_b rfl⟩ (le_b rfl) ?_ _ rfl
  rintro _ _ ⟨rfl, f17, rfl, o17, h170, h171, h172, h173, h169⟩
  have p1 : PlaneAt f17 1 2 := p1.kept (o17 _ (by decide) (by decide)) (fun i h1 h2 => o17 i (by omega) (by omega))
  have p77 : PlaneAt f17 77 78 := p77.kept (o17 _ (by decide) (by decide)) (fun i h1 h2 => o17 i (by omega) (by omega))
  have h154 : f17 154 = .inl (0, 900, .inl (fun _ => 0)) := (o17 _ (by decide) (by decide)).trans h154
  have h153 : f17 153 = .inr (2, [.ref 154, .int 0]) := (o17 _ (by decide) (by decide)).trans h153
  have h156 : f17 156 = .inl (1, 9, .inr (.inl (fun _ => 0))) := (o17 _ (by decide) (by decide)).trans h156
  have h157 : f17 157 = .inl (1, 9, .inr (.inl (fun _ => 0))) := (o17 _ (by decide) (by decide)).trans h157
  have p158 : QuadAt f17 158 159 := p158.kept (o17 _ (by decide) (by decide)) (fun i h1 h2 => o17 i (by omega) (by omega))
  have h155 : f17 155 = .inr (3, [.ref 156, .ref 157, .ref 158]) := (o17 _ (by decide) (by decide)).trans h155
  have h165 : f17 165 = .inl (0, 8, .inl (fun _ => 0)) := (o17 _ (by decide) (by decide)).trans h165
  have h166 : f17 166 = .inl (0, 8, .inl (fun _ => 0)) := (o17 _ (by decide) (by decide)).trans h166
  have h167 : f17 167 = .inl (1, 3, .inr (.inl (fun _ => 0))) := (o17 _ (by decide) (by decide)).trans h167
  have h168 : f17 168 = .inl (1, 9, .inr (.inl (fun _ => 0))) := (o17 _ (by decide) (by decide)).trans h168
  have h164 : f17 164 = .inr (4, [.ref 153, .ref 155, .ref 165, .ref 166, .ref 167, .ref 168, .ref 77, .int 0, .int 0, .int 0, .int 0, .int 0, .int 0, .int (-1)]) := (o17 _ (by decide) (by decide)).trans h164
  have h0 : f17 0 = .inr (8, [.ref 1, .ref 77, .ref 153, .ref 164, .null, .ref 155, .null, .null, .null, .null, .null, .null, .null, .null, .null, .null, .null, .null]) := (o17 _ (by decide) (by decide)).trans h0
  show PW _ _ _ _ _ _ (79, [(0, .ref 0)], [.ref 169, .ref 0], (189, f17))
  refine P_putF (i := 4) d_CM_init_79 ok_CM (by decide) rfl L_CM_47 rfl rfl h0 (fun _ => rfl) (fun _ => rfl) ?_
  obtain ⟨f18, e18⟩ : ∃ f18 : Nat → pE, f18 = wu f17 0 (.inr (8, [.ref 1, .ref 77, .ref 153, .ref 164, .ref 169, .ref 155, .null, .null, .null, .null, .null, .null, .null, .null, .null, .null, .null, .null])) := ⟨_, rfl⟩
  have p1 : PlaneAt f18 1 2 := p1.kept (by rw [e18]; exact wu_n (by decide)) (fun i h1 h2 => by rw [e18]; exact wu_n (by omega))
  have p77 : PlaneAt f18 77 78 := p77.kept (by rw [e18]; exact wu_n (by decide)) (fun i h1 h2 => by rw [e18]; exact wu_n (by omega))
  have h154 : f18 154 = .inl (0, 900, .inl (fun _ => 0)) := by rw [e18]; exact (wu_n (by decide)).trans h154
  have h153 : f18 153 = .inr (2, [.ref 154, .int 0]) := by rw [e18]; exact (wu_n (by decide)).trans h153
  have h156 : f18 156 = .inl (1, 9, .inr (.inl (fun _ => 0))) := by rw [e18]; exact (wu_n (by decide)).trans h156
  have h157 : f18 157 = .inl (1, 9, .inr (.inl (fun _ => 0))) := by rw [e18]; exact (wu_n (by decide)).trans h157
  have p158 : QuadAt f18 158 159 := p158.kept (by rw [e18]; exact wu_n (by decide)) (fun i h1 h2 => by rw [e18]; exact wu_n (by omega))
  have h155 : f18 155 = .inr (3, [.ref 156, .ref 157, .ref 158]) := by rw [e18]; exact (wu_n (by decide)).trans h155
  have h165 : f18 165 = .inl (0, 8, .inl (fun _ => 0)) := by rw [e18]; exact (wu_n (by decide)).trans h165
  have h166 : f18 166 = .inl (0, 8, .inl (fun _ => 0)) := by rw [e18]; exact (wu_n (by decide)).trans h166
  have h167 : f18 167 = .inl (1, 3, .inr (.inl (fun _ => 0))) := by rw [e18]; exact (wu_n (by decide)).trans h167
  have h168 : f18 168 = .inl (1, 9, .inr (.inl (fun _ => 0))) := by rw [e18]; exact (wu_n (by decide)).trans h168
  have h164 : f18 164 = .inr (4, [.ref 153, .ref 155, .ref 165, .ref 166, .ref 167, .ref 168, .ref 77, .int 0, .int 0, .int 0, .int 0, .int 0, .int 0, .int (-1)]) := by rw [e18]; exact (wu_n (by decide)).trans h164
  have h170 : f18 170 = .inl (0, 16, .inl (fun _ => 0)) := by rw [e18]; exact (wu_n (by decide)).trans h170
  have h171 : f18 171 = .inl (0, 16, .inl (fun _ => 0)) := by rw [e18]; exact (wu_n (by decide)).trans h171
  have h172 : f18 172 = .inl (3, 16, refs (rows_of 172 16)) := by rw [e18]; exact (wu_n (by decide)).trans h172
  have h173 : ∀ i, i < 16 → f18 (173 + i) = .inl (1, 24, .inr (.inl (fun _ => 0))) := fun i hi => by rw [e18]; exact (wu_n (by omega)).trans (h173 i hi)
  have h169 : f18 169 = .inr (5, [.ref 170, .ref 171, .ref 172, .int 0, .int 0]) := by rw [e18]; exact (wu_n (by decide)).trans h169
  have h0 : f18 0 = .inr (8, [.ref 1, .ref 77, .ref 153, .ref 164, .ref 169, .ref 155, .null, .null, .null, .null, .null, .null, .null, .null, .null, .null, .null, .null]) := by rw [e18]; exact wu_s _ _ _
  have o18 : ∀ i, (i < 0 ∨ 1 ≤ i) → f18 i = f17 i := fun i h1 => by rw [e18]; exact wu_n (by omega)
  show PW _ _ _ _ _ _ (82, [(0, .ref 0)], [], (189, wu f17 0 (.inr (8, [.ref 1, .ref 77, .ref 153, .ref 164, .ref 169, .ref 155, .null, .null, .null, .null, .null, .null, .null, .null, .null, .null, .null, .null]))))
  rw [← e18]
  refine P_aload_n d_CM_init_82 rfl ?_
  refine P_new (fs := [.null, .int 0, .int 0]) d_CM_init_83 ok_Pairs L_CM_51 in_Pairs.1 in_Pairs.2 rfl (fun j hj => by rcases (show j = 0 ∨ j = 1 ∨ j = 2 by omega) with rfl | rfl | rfl <;> rfl) (fun _ => rfl) (le_b rfl) (le_b rfl) (le_b rfl) ?_
  obtain ⟨f19, e19⟩ : ∃ f19 : Nat → pE, f19 = wu f18 189 (.inr (6, [.null, .int 0, .int 0])) := ⟨_, rfl⟩
  have p1 : PlaneAt f19 1 2 := p1.kept (by rw [e19]; exact wu_n (by decide)) (fun i h1 h2 => by rw [e19]; exact wu_n (by omega))
  have p77 : PlaneAt f19 77 78 := p77.kept (by rw [e19]; exact wu_n (by decide)) (fun i h1 h2 => by rw [e19]; exact wu_n (by omega))
  have h154 : f19 154 = .inl (0, 900, .inl (fun _ => 0)) := by rw [e19]; exact (wu_n (by decide)).trans h154
  have h153 : f19 153 = .inr (2, [.ref 154, .int 0]) := by rw [e19]; exact (wu_n (by decide)).trans h153
  have h156 : f19 156 = .inl (1, 9, .inr (.inl (fun _ => 0))) := by rw [e19]; exact (wu_n (by decide)).trans h156
  have h157 : f19 157 = .inl (1, 9, .inr (.inl (fun _ => 0))) := by rw [e19]; exact (wu_n (by decide)).trans h157
  have p158 : QuadAt f19 158 159 := p158.kept (by rw [e19]; exact wu_n (by decide)) (fun i h1 h2 => by rw [e19]; exact wu_n (by omega))
  have h155 : f19 155 = .inr (3, [.ref 156, .ref 157, .ref 158]) := by rw [e19]; exact (wu_n (by decide)).trans h155
  have h165 : f19 165 = .inl (0, 8, .inl (fun _ => 0)) := by rw [e19]; exact (wu_n (by decide)).trans h165
  have h166 : f19 166 = .inl (0, 8, .inl (fun _ => 0)) := by rw [e19]; exact (wu_n (by decide)).trans h166
  have h167 : f19 167 = .inl (1, 3, .inr (.inl (fun _ => 0))) := by rw [e19]; exact (wu_n (by decide)).trans h167
  have h168 : f19 168 = .inl (1, 9, .inr (.inl (fun _ => 0))) := by rw [e19]; exact (wu_n (by decide)).trans h168
  have h164 : f19 164 = .inr (4, [.ref 153, .ref 155, .ref 165, .ref 166, .ref 167, .ref 168, .ref 77, .int 0, .int 0, .int 0, .int 0, .int 0, .int 0, .int (-1)]) := by rw [e19]; exact (wu_n (by decide)).trans h164
  have h170 : f19 170 = .inl (0, 16, .inl (fun _ => 0)) := by rw [e19]; exact (wu_n (by decide)).trans h170
  have h171 : f19 171 = .inl (0, 16, .inl (fun _ => 0)) := by rw [e19]; exact (wu_n (by decide)).trans h171
  have h172 : f19 172 = .inl (3, 16, refs (rows_of 172 16)) := by rw [e19]; exact (wu_n (by decide)).trans h172
  have h173 : ∀ i, i < 16 → f19 (173 + i) = .inl (1, 24, .inr (.inl (fun _ => 0))) := fun i hi => by rw [e19]; exact (wu_n (by omega)).trans (h173 i hi)
  have h169 : f19 169 = .inr (5, [.ref 170, .ref 171, .ref 172, .int 0, .int 0]) := by rw [e19]; exact (wu_n (by decide)).trans h169
  have h0 : f19 0 = .inr (8, [.ref 1, .ref 77, .ref 153, .ref 164, .ref 169, .ref 155, .null, .null, .null, .null, .null, .null, .null, .null, .null, .null, .null, .null]) := by rw [e19]; exact (wu_n (by decide)).trans h0
  have h189 : f19 189 = .inr (6, [.null, .int 0, .int 0]) := by rw [e19]; exact wu_s _ _ _
  have o19 : ∀ i, (i < 189 ∨ 190 ≤ i) → f19 i = f18 i := fun i h1 => by rw [e19]; exact wu_n (by omega)
  show PW _ _ _ _ _ _ (86, [(0, .ref 0)], [.ref 189, .ref 0], (190, wu f18 189 (.inr (6, [.null, .int 0, .int 0]))))
  rw [← e19]
  refine P_dup d_CM_init_86 rfl ?_
  refine P_callIN (as := []) (b := 189) d_CM_init_87 co_Pairs_init rfl rfl L_CM_53 im_Pairs_init (c_Pairs_init _ h189) rfl ⟨le_b rfl, le_b rfl⟩ ⟨le_b rfl, le_b rfl⟩ (le_b rfl) ?_ _ rfl
  rintro _ _ ⟨rfl, f20, rfl, o20, h190, h191, h189⟩
  have p1 : PlaneAt f20 1 2 := p1.kept (o20 _ (by decide) (by decide)) (fun i h1 h2 => o20 i (by omega) (by omega))
  have p77 : PlaneAt f20 77 78 := p77.kept (o20 _ (by decide) (by decide)) (fun i h1 h2 => o20 i (by omega) (by omega))
  have h154 : f20 154 = .inl (0, 900, .inl (fun _ => 0)) := (o20 _ (by decide) (by decide)).trans h154
  have h153 : f20 153 = .inr (2, [.ref 154, .int 0]) := (o20 _ (by decide) (by decide)).trans h153
  have h156 : f20 156 = .inl (1, 9, .inr (.inl (fun _ => 0))) := (o20 _ (by decide) (by decide)).trans h156
  have h157 : f20 157 = .inl (1, 9, .inr (.inl (fun _ => 0))) := (o20 _ (by decide) (by decide)).trans h157
  have p158 : QuadAt f20 158 159 := p158.kept (o20 _ (by decide) (by decide)) (fun i h1 h2 => o20 i (by omega) (by omega))
  have h155 : f20 155 = .inr (3, [.ref 156, .ref 157, .ref 158]) := (o20 _ (by decide) (by decide)).trans h155
  have h165 : f20 165 = .inl (0, 8, .inl (fun _ => 0)) := (o20 _ (by decide) (by decide)).trans h165
  have h166 : f20 166 = .inl (0, 8, .inl (fun _ => 0)) := (o20 _ (by decide) (by decide)).trans h166
  have h167 : f20 167 = .inl (1, 3, .inr (.inl (fun _ => 0))) := (o20 _ (by decide) (by decide)).trans h167
  have h168 : f20 168 = .inl (1, 9, .inr (.inl (fun _ => 0))) := (o20 _ (by decide) (by decide)).trans h168
  have h164 : f20 164 = .inr (4, [.ref 153, .ref 155, .ref 165, .ref 166, .ref 167, .ref 168, .ref 77, .int 0, .int 0, .int 0, .int 0, .int 0, .int 0, .int (-1)]) := (o20 _ (by decide) (by decide)).trans h164
  have h170 : f20 170 = .inl (0, 16, .inl (fun _ => 0)) := (o20 _ (by decide) (by decide)).trans h170
  have h171 : f20 171 = .inl (0, 16, .inl (fun _ => 0)) := (o20 _ (by decide) (by decide)).trans h171
  have h172 : f20 172 = .inl (3, 16, refs (rows_of 172 16)) := (o20 _ (by decide) (by decide)).trans h172
  have h173 : ∀ i, i < 16 → f20 (173 + i) = .inl (1, 24, .inr (.inl (fun _ => 0))) := fun i hi => (o20 _ (by omega) (by omega)).trans (h173 i hi)
  have h169 : f20 169 = .inr (5, [.ref 170, .ref 171, .ref 172, .int 0, .int 0]) := (o20 _ (by decide) (by decide)).trans h169
  have h0 : f20 0 = .inr (8, [.ref 1, .ref 77, .ref 153, .ref 164, .ref 169, .ref 155, .null, .null, .null, .null, .null, .null, .null, .null, .null, .null, .null, .null]) := (o20 _ (by decide) (by decide)).trans h0
  show PW _ _ _ _ _ _ (90, [(0, .ref 0)], [.ref 189, .ref 0], (447, f20))
  refine P_putF (i := 6) d_CM_init_90 ok_CM (by decide) rfl L_CM_54 rfl rfl h0 (fun _ => rfl) (fun _ => rfl) ?_
  obtain ⟨f21, e21⟩ : ∃ f21 : Nat → pE, f21 = wu f20 0 (.inr (8, [.ref 1, .ref 77, .ref 153, .ref 164, .ref 169, .ref 155, .ref 189, .null, .null, .null, .null, .null, .null, .null, .null, .null, .null, .null])) := ⟨_, rfl⟩
  have p1 : PlaneAt f21 1 2 := p1.kept (by rw [e21]; exact wu_n (by decide)) (fun i h1 h2 => by rw [e21]; exact wu_n (by omega))
  have p77 : PlaneAt f21 77 78 := p77.kept (by rw [e21]; exact wu_n (by decide)) (fun i h1 h2 => by rw [e21]; exact wu_n (by omega))
  have h154 : f21 154 = .inl (0, 900, .inl (fun _ => 0)) := by rw [e21]; exact (wu_n (by decide)).trans h154
  have h153 : f21 153 = .inr (2, [.ref 154, .int 0]) := by rw [e21]; exact (wu_n (by decide)).trans h153
  have h156 : f21 156 = .inl (1, 9, .inr (.inl (fun _ => 0))) := by rw [e21]; exact (wu_n (by decide)).trans h156
  have h157 : f21 157 = .inl (1, 9, .inr (.inl (fun _ => 0))) := by rw [e21]; exact (wu_n (by decide)).trans h157
  have p158 : QuadAt f21 158 159 := p158.kept (by rw [e21]; exact wu_n (by decide)) (fun i h1 h2 => by rw [e21]; exact wu_n (by omega))
  have h155 : f21 155 = .inr (3, [.ref 156, .ref 157, .ref 158]) := by rw [e21]; exact (wu_n (by decide)).trans h155
  have h165 : f21 165 = .inl (0, 8, .inl (fun _ => 0)) := by rw [e21]; exact (wu_n (by decide)).trans h165
  have h166 : f21 166 = .inl (0, 8, .inl (fun _ => 0)) := by rw [e21]; exact (wu_n (by decide)).trans h166
  have h167 : f21 167 = .inl (1, 3, .inr (.inl (fun _ => 0))) := by rw [e21]; exact (wu_n (by decide)).trans h167
  have h168 : f21 168 = .inl (1, 9, .inr (.inl (fun _ => 0))) := by rw [e21]; exact (wu_n (by decide)).trans h168
  have h164 : f21 164 = .inr (4, [.ref 153, .ref 155, .ref 165, .ref 166, .ref 167, .ref 168, .ref 77, .int 0, .int 0, .int 0, .int 0, .int 0, .int 0, .int (-1)]) := by rw [e21]; exact (wu_n (by decide)).trans h164
  have h170 : f21 170 = .inl (0, 16, .inl (fun _ => 0)) := by rw [e21]; exact (wu_n (by decide)).trans h170
  have h171 : f21 171 = .inl (0, 16, .inl (fun _ => 0)) := by rw [e21]; exact (wu_n (by decide)).trans h171
  have h172 : f21 172 = .inl (3, 16, refs (rows_of 172 16)) := by rw [e21]; exact (wu_n (by decide)).trans h172
  have h173 : ∀ i, i < 16 → f21 (173 + i) = .inl (1, 24, .inr (.inl (fun _ => 0))) := fun i hi => by rw [e21]; exact (wu_n (by omega)).trans (h173 i hi)
  have h169 : f21 169 = .inr (5, [.ref 170, .ref 171, .ref 172, .int 0, .int 0]) := by rw [e21]; exact (wu_n (by decide)).trans h169
  have h190 : f21 190 = .inl (3, 256, refs (rows_of 190 256)) := by rw [e21]; exact (wu_n (by decide)).trans h190
  have h191 : ∀ i, i < 256 → f21 (191 + i) = .inl (1, 9, .inr (.inl (fun _ => 0))) := fun i hi => by rw [e21]; exact (wu_n (by omega)).trans (h191 i hi)
  have h189 : f21 189 = .inr (6, [.ref 190, .int 0, .int 0]) := by rw [e21]; exact (wu_n (by decide)).trans h189
  have h0 : f21 0 = .inr (8, [.ref 1, .ref 77, .ref 153, .ref 164, .ref 169, .ref 155, .ref 189, .null, .null, .null, .null, .null, .null, .null, .null, .null, .null, .null]) := by rw [e21]; exact wu_s _ _ _
  have o21 : ∀ i, (i < 0 ∨ 1 ≤ i) → f21 i = f20 i := fun i h1 => by rw [e21]; exact wu_n (by omega)
  show PW _ _ _ _ _ _ (93, [(0, .ref 0)], [], (447, wu f20 0 (.inr (8, [.ref 1, .ref 77, .ref 153, .ref 164, .ref 169, .ref 155, .ref 189, .null, .null, .null, .null, .null, .null, .null, .null, .null, .null, .null]))))
  rw [← e21]
  refine P_aload_n d_CM_init_93 rfl ?_
  refine P_new (fs := [.null, .int 0, .int 0, .int 0]) d_CM_init_94 ok_SB L_CM_58 in_SB.1 in_SB.2 rfl (fun j hj => by rcases (show j = 0 ∨ j = 1 ∨ j = 2 ∨ j = 3 by omega) with rfl | rfl | rfl | rfl <;> rfl) (fun _ => rfl) (le_b rfl) (le_b rfl) (le_b rfl) ?_
  obtain ⟨f22, e22⟩ : ∃ f22 : Nat → pE, f22 = wu f21 447 (.inr (7, [.null, .int 0, .int 0, .int 0])) := ⟨_, rfl⟩
  have p1 : PlaneAt f22 1 2 := p1.kept (by rw [e22]; exact wu_n (by decide)) (fun i h1 h2 => by rw [e22]; exact wu_n (by omega))
  have p77 : PlaneAt f22 77 78 := p77.kept (by rw [e22]; exact wu_n (by decide)) (fun i h1 h2 => by rw [e22]; exact wu_n (by omega))
  have h154 : f22 154 = .inl (0, 900, .inl (fun _ => 0)) := by rw [e22]; exact (wu_n (by decide)).trans h154
  have h153 : f22 153 = .inr (2, [.ref 154, .int 0]) := by rw [e22]; exact (wu_n (by decide)).trans h153
  have h156 : f22 156 = .inl (1, 9, .inr (.inl (fun _ => 0))) := by rw [e22]; exact (wu_n (by decide)).trans h156
  have h157 : f22 157 = .inl (1, 9, .inr (.inl (fun _ => 0))) := by rw [e22]; exact (wu_n (by decide)).trans h157
  have p158 : QuadAt f22 158 159 := p158.kept (by rw [e22]; exact wu_n (by decide)) (fun i h1 h2 => by rw [e22]; exact wu_n (by omega))
  have h155 : f22 155 = .inr (3, [.ref 156, .ref 157, .ref 158]) := by rw [e22]; exact (wu_n (by decide)).trans h155
  have h165 : f22 165 = .inl (0, 8, .inl (fun _ => 0)) := by rw [e22]; exact (wu_n (by decide)).trans h165
  have h166 : f22 166 = .inl (0, 8, .inl (fun _ => 0)) := by rw [e22]; exact (wu_n (by decide)).trans h166
  have h167 : f22 167 = .inl (1, 3, .inr (.inl (fun _ => 0))) := by rw [e22]; exact (wu_n (by decide)).trans h167
  have h168 : f22 168 = .inl (1, 9, .inr (.inl (fun _ => 0))) := by rw [e22]; exact (wu_n (by decide)).trans h168
  have h164 : f22 164 = .inr (4, [.ref 153, .ref 155, .ref 165, .ref 166, .ref 167, .ref 168, .ref 77, .int 0, .int 0, .int 0, .int 0, .int 0, .int 0, .int (-1)]) := by rw [e22]; exact (wu_n (by decide)).trans h164
  have h170 : f22 170 = .inl (0, 16, .inl (fun _ => 0)) := by rw [e22]; exact (wu_n (by decide)).trans h170
  have h171 : f22 171 = .inl (0, 16, .inl (fun _ => 0)) := by rw [e22]; exact (wu_n (by decide)).trans h171
  have h172 : f22 172 = .inl (3, 16, refs (rows_of 172 16)) := by rw [e22]; exact (wu_n (by decide)).trans h172
  have h173 : ∀ i, i < 16 → f22 (173 + i) = .inl (1, 24, .inr (.inl (fun _ => 0))) := fun i hi => by rw [e22]; exact (wu_n (by omega)).trans (h173 i hi)
  have h169 : f22 169 = .inr (5, [.ref 170, .ref 171, .ref 172, .int 0, .int 0]) := by rw [e22]; exact (wu_n (by decide)).trans h169
  have h190 : f22 190 = .inl (3, 256, refs (rows_of 190 256)) := by rw [e22]; exact (wu_n (by decide)).trans h190
  have h191 : ∀ i, i < 256 → f22 (191 + i) = .inl (1, 9, .inr (.inl (fun _ => 0))) := fun i hi => by rw [e22]; exact (wu_n (by omega)).trans (h191 i hi)
  have h189 : f22 189 = .inr (6, [.ref 190, .int 0, .int 0]) := by rw [e22]; exact (wu_n (by decide)).trans h189
  have h0 : f22 0 = .inr (8, [.ref 1, .ref 77, .ref 153, .ref 164, .ref 169, .ref 155, .ref 189, .null, .null, .null, .null, .null, .null, .null, .null, .null, .null, .null]) := by rw [e22]; exact (wu_n (by decide)).trans h0
  have h447 : f22 447 = .inr (7, [.null, .int 0, .int 0, .int 0]) := by rw [e22]; exact wu_s _ _ _
  have o22 : ∀ i, (i < 447 ∨ 448 ≤ i) → f22 i = f21 i := fun i h1 => by rw [e22]; exact wu_n (by omega)
  show PW _ _ _ _ _ _ (97, [(0, .ref 0)], [.ref 447, .ref 0], (448, wu f21 447 (.inr (7, [.null, .int 0, .int 0, .int 0]))))
  rw [← e22]
  refine P_dup d_CM_init_97 rfl ?_
  refine P_callI (as := []) (b := 447) d_CM_init_98 co_SB_init rfl rfl L_CM_60 im_SB_init (c_SB_init _ h447) rfl ⟨le_b rfl, le_b rfl⟩ ⟨le_b rfl, le_b rfl⟩ (le_b rfl) ?_ _ rfl
  rintro _ _ ⟨rfl, f23, rfl, o23, h448, h447⟩
  have p1 : PlaneAt f23 1 2 := p1.kept (o23 _ (by decide) (by decide)) (fun i h1 h2 => o23 i (by omega) (by omega))
  have p77 : PlaneAt f23 77 78 := p77.kept (o23 _ (by decide) (by decide)) (fun i h1 h2 => o23 i (by omega) (by omega))
  have h154 : f23 154 = .inl (0, 900, .inl (fun _ => 0)) := (o23 _ (by decide) (by decide)).trans h154
  have h153 : f23 153 = .inr (2, [.ref 154, .int 0]) := (o23 _ (by decide) (by decide)).trans h153
  have h156 : f23 156 = .inl (1, 9, .inr (.inl (fun _ => 0))) := (o23 _ (by decide) (by decide)).trans h156
  have h157 : f23 157 = .inl (1, 9, .inr (.inl (fun _ => 0))) := (o23 _ (by decide) (by decide)).trans h157
  have p158 : QuadAt f23 158 159 := p158.kept (o23 _ (by decide) (by decide)) (fun i h1 h2 => o23 i (by omega) (by omega))
  have h155 : f23 155 = .inr (3, [.ref 156, .ref 157, .ref 158]) := (o23 _ (by decide) (by decide)).trans h155
  have h165 : f23 165 = .inl (0, 8, .inl (fun _ => 0)) := (o23 _ (by decide) (by decide)).trans h165
  have h166 : f23 166 = .inl (0, 8, .inl (fun _ => 0)) := (o23 _ (by decide) (by decide)).trans h166
  have h167 : f23 167 = .inl (1, 3, .inr (.inl (fun _ => 0))) := (o23 _ (by decide) (by decide)).trans h167
  have h168 : f23 168 = .inl (1, 9, .inr (.inl (fun _ => 0))) := (o23 _ (by decide) (by decide)).trans h168
  have h164 : f23 164 = .inr (4, [.ref 153, .ref 155, .ref 165, .ref 166, .ref 167, .ref 168, .ref 77, .int 0, .int 0, .int 0, .int 0, .int 0, .int 0, .int (-1)]) := (o23 _ (by decide) (by decide)).trans h164
  have h170 : f23 170 = .inl (0, 16, .inl (fun _ => 0)) := (o23 _ (by decide) (by decide)).trans h170
  have h171 : f23 171 = .inl (0, 16, .inl (fun _ => 0)) := (o23 _ (by decide) (by decide)).trans h171
  have h172 : f23 172 = .inl (3, 16, refs (rows_of 172 16)) := (o23 _ (by decide) (by decide)).trans h172
  have h173 : ∀ i, i < 16 → f23 (173 + i) = .inl (1, 24, .inr (.inl (fun _ => 0))) := fun i hi => (o23 _ (by omega) (by omega)).trans (h173 i hi)
  have h169 : f23 169 = .inr (5, [.ref 170, .ref 171, .ref 172, .int 0, .int 0]) := (o23 _ (by decide) (by decide)).trans h169
  have h190 : f23 190 = .inl (3, 256, refs (rows_of 190 256)) := (o23 _ (by decide) (by decide)).trans h190
  have h191 : ∀ i, i < 256 → f23 (191 + i) = .inl (1, 9, .inr (.inl (fun _ => 0))) := fun i hi => (o23 _ (by omega) (by omega)).trans (h191 i hi)
  have h189 : f23 189 = .inr (6, [.ref 190, .int 0, .int 0]) := (o23 _ (by decide) (by decide)).trans h189
  have h0 : f23 0 = .inr (8, [.ref 1, .ref 77, .ref 153, .ref 164, .ref 169, .ref 155, .ref 189, .null, .null, .null, .null, .null, .null, .null, .null, .null, .null, .null]) := (o23 _ (by decide) (by decide)).trans h0
  show PW _ _ _ _ _ _ (101, [(0, .ref 0)], [.ref 447, .ref 0], (449, f23))
  refine P_putF (i := 7) d_CM_init_101 ok_CM (by decide) rfl L_CM_61 rfl rfl h0 (fun _ => rfl) (fun _ => rfl) ?_
  obtain ⟨f24, e24⟩ : ∃ f24 : Nat → pE, f24 = wu f23 0 (.inr (8, [.ref 1, .ref 77, .ref 153, .ref 164, .ref 169, .ref 155, .ref 189, .ref 447, .null, .null, .null, .null, .null, .null, .null, .null, .null, .null])) := ⟨_, rfl⟩
  have p1 : PlaneAt f24 1 2 := p1.kept (by rw [e24]; exact wu_n (by decide)) (fun i h1 h2 => by rw [e24]; exact wu_n (by omega))
  have p77 : PlaneAt f24 77 78 := p77.kept (by rw [e24]; exact wu_n (by decide)) (fun i h1 h2 => by rw [e24]; exact wu_n (by omega))
  have h154 : f24 154 = .inl (0, 900, .inl (fun _ => 0)) := by rw [e24]; exact (wu_n (by decide)).trans h154
  have h153 : f24 153 = .inr (2, [.ref 154, .int 0]) := by rw [e24]; exact (wu_n (by decide)).trans h153
  have h156 : f24 156 = .inl (1, 9, .inr (.inl (fun _ => 0))) := by rw [e24]; exact (wu_n (by decide)).trans h156
  have h157 : f24 157 = .inl (1, 9, .inr (.inl (fun _ => 0))) := by rw [e24]; exact (wu_n (by decide)).trans h157
  have p158 : QuadAt f24 158 159 := p158.kept (by rw [e24]; exact wu_n (by decide)) (fun i h1 h2 => by rw [e24]; exact wu_n (by omega))
  have h155 : f24 155 = .inr (3, [.ref 156, .ref 157, .ref 158]) := by rw [e24]; exact (wu_n (by decide)).trans h155
  have h165 : f24 165 = .inl (0, 8, .inl (fun _ => 0)) := by rw [e24]; exact (wu_n (by decide)).trans h165
  have h166 : f24 166 = .inl (0, 8, .inl (fun _ => 0)) := by rw [e24]; exact (wu_n (by decide)).trans h166
  have h167 : f24 167 = .inl (1, 3, .inr (.inl (fun _ => 0))) := by rw [e24]; exact (wu_n (by decide)).trans h167
  have h168 : f24 168 = .inl (1, 9, .inr (.inl (fun _ => 0))) := by rw [e24]; exact (wu_n (by decide)).trans h168
  have h164 : f24 164 = .inr (4, [.ref 153, .ref 155, .ref 165, .ref 166, .ref 167, .ref 168, .ref 77, .int 0, .int 0, .int 0, .int 0, .int 0, .int 0, .int (-1)]) := by rw [e24]; exact (wu_n (by decide)).trans h164
  have h170 : f24 170 = .inl (0, 16, .inl (fun _ => 0)) := by rw [e24]; exact (wu_n (by decide)).trans h170
  have h171 : f24 171 = .inl (0, 16, .inl (fun _ => 0)) := by rw [e24]; exact (wu_n (by decide)).trans h171
  have h172 : f24 172 = .inl (3, 16, refs (rows_of 172 16)) := by rw [e24]; exact (wu_n (by decide)).trans h172
  have h173 : ∀ i, i < 16 → f24 (173 + i) = .inl (1, 24, .inr (.inl (fun _ => 0))) := fun i hi => by rw [e24]; exact (wu_n (by omega)).trans (h173 i hi)
  have h169 : f24 169 = .inr (5, [.ref 170, .ref 171, .ref 172, .int 0, .int 0]) := by rw [e24]; exact (wu_n (by decide)).trans h169
  have h190 : f24 190 = .inl (3, 256, refs (rows_of 190 256)) := by rw [e24]; exact (wu_n (by decide)).trans h190
  have h191 : ∀ i, i < 256 → f24 (191 + i) = .inl (1, 9, .inr (.inl (fun _ => 0))) := fun i hi => by rw [e24]; exact (wu_n (by omega)).trans (h191 i hi)
  have h189 : f24 189 = .inr (6, [.ref 190, .int 0, .int 0]) := by rw [e24]; exact (wu_n (by decide)).trans h189
  have h448 : f24 448 = .inl (2, 16, .inl (fun _ => 0)) := by rw [e24]; exact (wu_n (by decide)).trans h448
  have h447 : f24 447 = .inr (7, [.ref 448, .int 0, .int 0, .int 0]) := by rw [e24]; exact (wu_n (by decide)).trans h447
  have h0 : f24 0 = .inr (8, [.ref 1, .ref 77, .ref 153, .ref 164, .ref 169, .ref 155, .ref 189, .ref 447, .null, .null, .null, .null, .null, .null, .null, .null, .null, .null]) := by rw [e24]; exact wu_s _ _ _
  have o24 : ∀ i, (i < 0 ∨ 1 ≤ i) → f24 i = f23 i := fun i h1 => by rw [e24]; exact wu_n (by omega)
  show PW _ _ _ _ _ _ (104, [(0, .ref 0)], [], (449, wu f23 0 (.inr (8, [.ref 1, .ref 77, .ref 153, .ref 164, .ref 169, .ref 155, .ref 189, .ref 447, .null, .null, .null, .null, .null, .null, .null, .null, .null, .null]))))
  rw [← e24]
  refine P_aload_n d_CM_init_104 rfl ?_
  refine P_bipush (v := 9) d_CM_init_105 (by decide) ?_
  refine P_newarr (t := 1) (N := 9) (a0 := (9, .inr (.inl (fun _ => 0)))) d_CM_init_107 rfl (by decide) ac_long ⟨by decide, by decide⟩ (le_b rfl) ⟨rfl, fun _ _ => rfl⟩ (le_b rfl) (le_b rfl) (le_b rfl) ?_
  obtain ⟨f25, e25⟩ : ∃ f25 : Nat → pE, f25 = wu f24 449 (.inl (1, 9, .inr (.inl (fun _ => 0)))) := ⟨_, rfl⟩
  have p1 : PlaneAt f25 1 2 := p1.kept (by rw [e25]; exact wu_n (by decide)) (fun i h1 h2 => by rw [e25]; exact wu_n (by omega))
  have p77 : PlaneAt f25 77 78 := p77.kept (by rw [e25]; exact wu_n (by decide)) (fun i h1 h2 => by rw [e25]; exact wu_n (by omega))
  have h154 : f25 154 = .inl (0, 900, .inl (fun _ => 0)) := by rw [e25]; exact (wu_n (by decide)).trans h154
  have h153 : f25 153 = .inr (2, [.ref 154, .int 0]) := by rw [e25]; exact (wu_n (by decide)).trans h153
  have h156 : f25 156 = .inl (1, 9, .inr (.inl (fun _ => 0))) := by rw [e25]; exact (wu_n (by decide)).trans h156
  have h157 : f25 157 = .inl (1, 9, .inr (.inl (fun _ => 0))) := by rw [e25]; exact (wu_n (by decide)).trans h157
  have p158 : QuadAt f25 158 159 := p158.kept (by rw [e25]; exact wu_n (by decide)) (fun i h1 h2 => by rw [e25]; exact wu_n (by omega))
  have h155 : f25 155 = .inr (3, [.ref 156, .ref 157, .ref 158]) := by rw [e25]; exact (wu_n (by decide)).trans h155
  have h165 : f25 165 = .inl (0, 8, .inl (fun _ => 0)) := by rw [e25]; exact (wu_n (by decide)).trans h165
  have h166 : f25 166 = .inl (0, 8, .inl (fun _ => 0)) := by rw [e25]; exact (wu_n (by decide)).trans h166
  have h167 : f25 167 = .inl (1, 3, .inr (.inl (fun _ => 0))) := by rw [e25]; exact (wu_n (by decide)).trans h167
  have h168 : f25 168 = .inl (1, 9, .inr (.inl (fun _ => 0))) := by rw [e25]; exact (wu_n (by decide)).trans h168
  have h164 : f25 164 = .inr (4, [.ref 153, .ref 155, .ref 165, .ref 166, .ref 167, .ref 168, .ref 77, .int 0, .int 0, .int 0, .int 0, .int 0, .int 0, .int (-1)]) := by rw [e25]; exact (wu_n (by decide)).trans h164
  have h170 : f25 170 = .inl (0, 16, .inl (fun _ => 0)) := by rw [e25]; exact (wu_n (by decide)).trans h170
  have h171 : f25 171 = .inl (0, 16, .inl (fun _ => 0)) := by rw [e25]; exact (wu_n (by decide)).trans h171
  have h172 : f25 172 = .inl (3, 16, refs (rows_of 172 16)) := by rw [e25]; exact (wu_n (by decide)).trans h172
  have h173 : ∀ i, i < 16 → f25 (173 + i) = .inl (1, 24, .inr (.inl (fun _ => 0))) := fun i hi => by rw [e25]; exact (wu_n (by omega)).trans (h173 i hi)
  have h169 : f25 169 = .inr (5, [.ref 170, .ref 171, .ref 172, .int 0, .int 0]) := by rw [e25]; exact (wu_n (by decide)).trans h169
  have h190 : f25 190 = .inl (3, 256, refs (rows_of 190 256)) := by rw [e25]; exact (wu_n (by decide)).trans h190
  have h191 : ∀ i, i < 256 → f25 (191 + i) = .inl (1, 9, .inr (.inl (fun _ => 0))) := fun i hi => by rw [e25]; exact (wu_n (by omega)).trans (h191 i hi)
  have h189 : f25 189 = .inr (6, [.ref 190, .int 0, .int 0]) := by rw [e25]; exact (wu_n (by decide)).trans h189
  have h448 : f25 448 = .inl (2, 16, .inl (fun _ => 0)) := by rw [e25]; exact (wu_n (by decide)).trans h448
  have h447 : f25 447 = .inr (7, [.ref 448, .int 0, .int 0, .int 0]) := by rw [e25]; exact (wu_n (by decide)).trans h447
  have h0 : f25 0 = .inr (8, [.ref 1, .ref 77, .ref 153, .ref 164, .ref 169, .ref 155, .ref 189, .ref 447, .null, .null, .null, .null, .null, .null, .null, .null, .null, .null]) := by rw [e25]; exact (wu_n (by decide)).trans h0
  have h449 : f25 449 = .inl (1, 9, .inr (.inl (fun _ => 0))) := by rw [e25]; exact wu_s _ _ _
  have o25 : ∀ i, (i < 449 ∨ 450 ≤ i) → f25 i = f24 i := fun i h1 => by rw [e25]; exact wu_n (by omega)
  show PW _ _ _ _ _ _ (109, [(0, .ref 0)], [.ref 449, .ref 0], (450, wu f24 449 (.inl (1, 9, .inr (.inl (fun _ => 0))))))
  rw [← e25]
  refine P_putF (i := 8) d_CM_init_109 ok_CM (by decide) rfl L_CM_65 rfl rfl h0 (fun _ => rfl) (fun _ => rfl) ?_
  obtain ⟨f26, e26⟩ : ∃ f26 : Nat → pE, f26 = wu f25 0 (.inr (8, [.ref 1, .ref 77, .ref 153, .ref 164, .ref 169, .ref 155, .ref 189, .ref 447, .ref 449, .null, .null, .null, .null, .null, .null, .null, .null, .null])) := ⟨_, rfl⟩
  have p1 : PlaneAt f26 1 2 := p1.kept (by rw [e26]; exact wu_n (by decide)) (fun i h1 h2 => by rw [e26]; exact wu_n (by omega))
  have p77 : PlaneAt f26 77 78 := p77.kept (by rw [e26]; exact wu_n (by decide)) (fun i h1 h2 => by rw [e26]; exact wu_n (by omega))
  have h154 : f26 154 = .inl (0, 900, .inl (fun _ => 0)) := by rw [e26]; exact (wu_n (by decide)).trans h154
  have h153 : f26 153 = .inr (2, [.ref 154, .int 0]) := by rw [e26]; exact (wu_n (by decide)).trans h153
  have h156 : f26 156 = .inl (1, 9, .inr (.inl (fun _ => 0))) := by rw [e26]; exact (wu_n (by decide)).trans h156
  have h157 : f26 157 = .inl (1, 9, .inr (.inl (fun _ => 0))) := by rw [e26]; exact (wu_n (by decide)).trans h157
  have p158 : QuadAt f26 158 159 := p158.kept (by rw [e26]; exact wu_n (by decide)) (fun i h1 h2 => by rw [e26]; exact wu_n (by omega))
  have h155 : f26 155 = .inr (3, [.ref 156, .ref 157, .ref 158]) := by rw [e26]; exact (wu_n (by decide)).trans h155
  have h165 : f26 165 = .inl (0, 8, .inl (fun _ => 0)) := by rw [e26]; exact (wu_n (by decide)).trans h165
  have h166 : f26 166 = .inl (0, 8, .inl (fun _ => 0)) := by rw [e26]; exact (wu_n (by decide)).trans h166
  have h167 : f26 167 = .inl (1, 3, .inr (.inl (fun _ => 0))) := by rw [e26]; exact (wu_n (by decide)).trans h167
  have h168 : f26 168 = .inl (1, 9, .inr (.inl (fun _ => 0))) := by rw [e26]; exact (wu_n (by decide)).trans h168
  have h164 : f26 164 = .inr (4, [.ref 153, .ref 155, .ref 165, .ref 166, .ref 167, .ref 168, .ref 77, .int 0, .int 0, .int 0, .int 0, .int 0, .int 0, .int (-1)]) := by rw [e26]; exact (wu_n (by decide)).trans h164
  have h170 : f26 170 = .inl (0, 16, .inl (fun _ => 0)) := by rw [e26]; exact (wu_n (by decide)).trans h170
  have h171 : f26 171 = .inl (0, 16, .inl (fun _ => 0)) := by rw [e26]; exact (wu_n (by decide)).trans h171
  have h172 : f26 172 = .inl (3, 16, refs (rows_of 172 16)) := by rw [e26]; exact (wu_n (by decide)).trans h172
  have h173 : ∀ i, i < 16 → f26 (173 + i) = .inl (1, 24, .inr (.inl (fun _ => 0))) := fun i hi => by rw [e26]; exact (wu_n (by omega)).trans (h173 i hi)
  have h169 : f26 169 = .inr (5, [.ref 170, .ref 171, .ref 172, .int 0, .int 0]) := by rw [e26]; exact (wu_n (by decide)).trans h169
  have h190 : f26 190 = .inl (3, 256, refs (rows_of 190 256)) := by rw [e26]; exact (wu_n (by decide)).trans h190
  have h191 : ∀ i, i < 256 → f26 (191 + i) = .inl (1, 9, .inr (.inl (fun _ => 0))) := fun i hi => by rw [e26]; exact (wu_n (by omega)).trans (h191 i hi)
  have h189 : f26 189 = .inr (6, [.ref 190, .int 0, .int 0]) := by rw [e26]; exact (wu_n (by decide)).trans h189
  have h448 : f26 448 = .inl (2, 16, .inl (fun _ => 0)) := by rw [e26]; exact (wu_n (by decide)).trans h448
  have h447 : f26 447 = .inr (7, [.ref 448, .int 0, .int 0, .int 0]) := by rw [e26]; exact (wu_n (by decide)).trans h447
  have h449 : f26 449 = .inl (1, 9, .inr (.inl (fun _ => 0))) := by rw [e26]; exact (wu_n (by decide)).trans h449
  have h0 : f26 0 = .inr (8, [.ref 1, .ref 77, .ref 153, .ref 164, .ref 169, .ref 155, .ref 189, .ref 447, .ref 449, .null, .null, .null, .null, .null, .null, .null, .null, .null]) := by rw [e26]; exact wu_s _ _ _
  have o26 : ∀ i, (i < 0 ∨ 1 ≤ i) → f26 i = f25 i := fun i h1 => by rw [e26]; exact wu_n (by omega)
  show PW _ _ _ _ _ _ (112, [(0, .ref 0)], [], (450, wu f25 0 (.inr (8, [.ref 1, .ref 77, .ref 153, .ref 164, .ref 169, .ref 155, .ref 189, .ref 447, .ref 449, .null, .null, .null, .null, .null, .null, .null, .null, .null]))))
  rw [← e26]
  refine P_aload_n d_CM_init_112 rfl ?_
  refine P_bipush (v := 9) d_CM_init_113 (by decide) ?_
  refine P_newarr (t := 1) (N := 9) (a0 := (9, .inr (.inl (fun _ => 0)))) d_CM_init_115 rfl (by decide) ac_long ⟨by decide, by decide⟩ (le_b rfl) ⟨rfl, fun _ _ => rfl⟩ (le_b rfl) (le_b rfl) (le_b rfl) ?_
  obtain ⟨f27, e27⟩ : ∃ f27 : Nat → pE, f27 = wu f26 450 (.inl (1, 9, .inr (.inl (fun _ => 0)))) := ⟨_, rfl⟩
  have p1 : PlaneAt f27 1 2 := p1.kept (by rw [e27]; exact wu_n (by decide)) (fun i h1 h2 => by rw [e27]; exact wu_n (by omega))
  have p77 : PlaneAt f27 77 78 := p77.kept (by rw [e27]; exact wu_n (by decide)) (fun i h1 h2 => by rw [e27]; exact wu_n (by omega))
  have h154 : f27 154 = .inl (0, 900, .inl (fun _ => 0)) := by rw [e27]; exact (wu_n (by decide)).trans h154
  have h153 : f27 153 = .inr (2, [.ref 154, .int 0]) := by rw [e27]; exact (wu_n (by decide)).trans h153
  have h156 : f27 156 = .inl (1, 9, .inr (.inl (fun _ => 0))) := by rw [e27]; exact (wu_n (by decide)).trans h156
  have h157 : f27 157 = .inl (1, 9, .inr (.inl (fun _ => 0))) := by rw [e27]; exact (wu_n (by decide)).trans h157
  have p158 : QuadAt f27 158 159 := p158.kept (by rw [e27]; exact wu_n (by decide)) (fun i h1 h2 => by rw [e27]; exact wu_n (by omega))
  have h155 : f27 155 = .inr (3, [.ref 156, .ref 157, .ref 158]) := by rw [e27]; exact (wu_n (by decide)).trans h155
  have h165 : f27 165 = .inl (0, 8, .inl (fun _ => 0)) := by rw [e27]; exact (wu_n (by decide)).trans h165
  have h166 : f27 166 = .inl (0, 8, .inl (fun _ => 0)) := by rw [e27]; exact (wu_n (by decide)).trans h166
  have h167 : f27 167 = .inl (1, 3, .inr (.inl (fun _ => 0))) := by rw [e27]; exact (wu_n (by decide)).trans h167
  have h168 : f27 168 = .inl (1, 9, .inr (.inl (fun _ => 0))) := by rw [e27]; exact (wu_n (by decide)).trans h168
  have h164 : f27 164 = .inr (4, [.ref 153, .ref 155, .ref 165, .ref 166, .ref 167, .ref 168, .ref 77, .int 0, .int 0, .int 0, .int 0, .int 0, .int 0, .int (-1)]) := by rw [e27]; exact (wu_n (by decide)).trans h164
  have h170 : f27 170 = .inl (0, 16, .inl (fun _ => 0)) := by rw [e27]; exact (wu_n (by decide)).trans h170
  have h171 : f27 171 = .inl (0, 16, .inl (fun _ => 0)) := by rw [e27]; exact (wu_n (by decide)).trans h171
  have h172 : f27 172 = .inl (3, 16, refs (rows_of 172 16)) := by rw [e27]; exact (wu_n (by decide)).trans h172
  have h173 : ∀ i, i < 16 → f27 (173 + i) = .inl (1, 24, .inr (.inl (fun _ => 0))) := fun i hi => by rw [e27]; exact (wu_n (by omega)).trans (h173 i hi)
  have h169 : f27 169 = .inr (5, [.ref 170, .ref 171, .ref 172, .int 0, .int 0]) := by rw [e27]; exact (wu_n (by decide)).trans h169
  have h190 : f27 190 = .inl (3, 256, refs (rows_of 190 256)) := by rw [e27]; exact (wu_n (by decide)).trans h190
  have h191 : ∀ i, i < 256 → f27 (191 + i) = .inl (1, 9, .inr (.inl (fun _ => 0))) := fun i hi => by rw [e27]; exact (wu_n (by omega)).trans (h191 i hi)
  have h189 : f27 189 = .inr (6, [.ref 190, .int 0, .int 0]) := by rw [e27]; exact (wu_n (by decide)).trans h189
  have h448 : f27 448 = .inl (2, 16, .inl (fun _ => 0)) := by rw [e27]; exact (wu_n (by decide)).trans h448
  have h447 : f27 447 = .inr (7, [.ref 448, .int 0, .int 0, .int 0]) := by rw [e27]; exact (wu_n (by decide)).trans h447
  have h449 : f27 449 = .inl (1, 9, .inr (.inl (fun _ => 0))) := by rw [e27]; exact (wu_n (by decide)).trans h449
  have h0 : f27 0 = .inr (8, [.ref 1, .ref 77, .ref 153, .ref 164, .ref 169, .ref 155, .ref 189, .ref 447, .ref 449, .null, .null, .null, .null, .null, .null, .null, .null, .null]) := by rw [e27]; exact (wu_n (by decide)).trans h0
  have h450 : f27 450 = .inl (1, 9, .inr (.inl (fun _ => 0))) := by rw [e27]; exact wu_s _ _ _
  have o27 : ∀ i, (i < 450 ∨ 451 ≤ i) → f27 i = f26 i := fun i h1 => by rw [e27]; exact wu_n (by omega)
  show PW _ _ _ _ _ _ (117, [(0, .ref 0)], [.ref 450, .ref 0], (451, wu f26 450 (.inl (1, 9, .inr (.inl (fun _ => 0))))))
  rw [← e27]
  refine P_putF (i := 9) d_CM_init_117 ok_CM (by decide) rfl L_CM_69 rfl rfl h0 (fun _ => rfl) (fun _ => rfl) ?_
  obtain ⟨f28, e28⟩ : ∃ f28 : Nat → pE, f28 = wu f27 0 (.inr (8, [.ref 1, .ref 77, .ref 153, .ref 164, .ref 169, .ref 155, .ref 189, .ref 447, .ref 449, .ref 450, .null, .null, .null, .null, .null, .null, .null, .null])) := ⟨_, rfl⟩
  have p1 : PlaneAt f28 1 2 := p1.kept (by rw [e28]; exact wu_n (by decide)) (fun i h1 h2 => by rw [e28]; exact wu_n (by omega))
  have p77 : PlaneAt f28 77 78 := p77.kept (by rw [e28]; exact wu_n (by decide)) (fun i h1 h2 => by rw [e28]; exact wu_n (by omega))
  have h154 : f28 154 = .inl (0, 900, .inl (fun _ => 0)) := by rw [e28]; exact (wu_n (by decide)).trans h154
  have h153 : f28 153 = .inr (2, [.ref 154, .int 0]) := by rw [e28]; exact (wu_n (by decide)).trans h153
  have h156 : f28 156 = .inl (1, 9, .inr (.inl (fun _ => 0))) := by rw [e28]; exact (wu_n (by decide)).trans h156
  have h157 : f28 157 = .inl (1, 9, .inr (.inl (fun _ => 0))) := by rw [e28]; exact (wu_n (by decide)).trans h157
  have p158 : QuadAt f28 158 159 := p158.kept (by rw [e28]; exact wu_n (by decide)) (fun i h1 h2 => by rw [e28]; exact wu_n (by omega))
  have h155 : f28 155 = .inr (3, [.ref 156, .ref 157, .ref 158]) := by rw [e28]; exact (wu_n (by decide)).trans h155
  have h165 : f28 165 = .inl (0, 8, .inl (fun _ => 0)) := by rw [e28]; exact (wu_n (by decide)).trans h165
  have h166 : f28 166 = .inl (0, 8, .inl (fun _ => 0)) := by rw [e28]; exact (wu_n (by decide)).trans h166
  have h167 : f28 167 = .inl (1, 3, .inr (.inl (fun _ => 0))) := by rw [e28]; exact (wu_n (by decide)).trans h167
  have h168 : f28 168 = .inl (1, 9, .inr (.inl (fun _ => 0))) := by rw [e28]; exact (wu_n (by decide)).trans h168
  have h164 : f28 164 = .inr (4, [.ref 153, .ref 155, .ref 165, .ref 166, .ref 167, .ref 168, .ref 77, .int 0, .int 0, .int 0, .int 0, .int 0, .int 0, .int (-1)]) := by rw [e28]; exact (wu_n (by decide)).trans h164
  have h170 : f28 170 = .inl (0, 16, .inl (fun _ => 0)) := by rw [e28]; exact (wu_n (by decide)).trans h170
  have h171 : f28 171 = .inl (0, 16, .inl (fun _ => 0)) := by rw [e28]; exact (wu_n (by decide)).trans h171
  have h172 : f28 172 = .inl (3, 16, refs (rows_of 172 16)) := by rw [e28]; exact (wu_n (by decide)).trans h172
  have h173 : ∀ i, i < 16 → f28 (173 + i) = .inl (1, 24, .inr (.inl (fun _ => 0))) := fun i hi => by rw [e28]; exact (wu_n (by omega)).trans (h173 i hi)
  have h169 : f28 169 = .inr (5, [.ref 170, .ref 171, .ref 172, .int 0, .int 0]) := by rw [e28]; exact (wu_n (by decide)).trans h169
  have h190 : f28 190 = .inl (3, 256, refs (rows_of 190 256)) := by rw [e28]; exact (wu_n (by decide)).trans h190
  have h191 : ∀ i, i < 256 → f28 (191 + i) = .inl (1, 9, .inr (.inl (fun _ => 0))) := fun i hi => by rw [e28]; exact (wu_n (by omega)).trans (h191 i hi)
  have h189 : f28 189 = .inr (6, [.ref 190, .int 0, .int 0]) := by rw [e28]; exact (wu_n (by decide)).trans h189
  have h448 : f28 448 = .inl (2, 16, .inl (fun _ => 0)) := by rw [e28]; exact (wu_n (by decide)).trans h448
  have h447 : f28 447 = .inr (7, [.ref 448, .int 0, .int 0, .int 0]) := by rw [e28]; exact (wu_n (by decide)).trans h447
  have h449 : f28 449 = .inl (1, 9, .inr (.inl (fun _ => 0))) := by rw [e28]; exact (wu_n (by decide)).trans h449
  have h450 : f28 450 = .inl (1, 9, .inr (.inl (fun _ => 0))) := by rw [e28]; exact (wu_n (by decide)).trans h450
  have h0 : f28 0 = .inr (8, [.ref 1, .ref 77, .ref 153, .ref 164, .ref 169, .ref 155, .ref 189, .ref 447, .ref 449, .ref 450, .null, .null, .null, .null, .null, .null, .null, .null]) := by rw [e28]; exact wu_s _ _ _
  have o28 : ∀ i, (i < 0 ∨ 1 ≤ i) → f28 i = f27 i := fun i h1 => by rw [e28]; exact wu_n (by omega)
  show PW _ _ _ _ _ _ (120, [(0, .ref 0)], [], (451, wu f27 0 (.inr (8, [.ref 1, .ref 77, .ref 153, .ref 164, .ref 169, .ref 155, .ref 189, .ref 447, .ref 449, .ref 450, .null, .null, .null, .null, .null, .null, .null, .null]))))
  rw [← e28]
  refine P_aload_n d_CM_init_120 rfl ?_
  refine P_bipush (v := 9) d_CM_init_121 (by decide) ?_
  refine P_newarr (t := 1) (N := 9) (a0 := (9, .inr (.inl (fun _ => 0)))) d_CM_init_123 rfl (by decide) ac_long ⟨by decide, by decide⟩ (le_b rfl) ⟨rfl, fun _ _ => rfl⟩ (le_b rfl) (le_b rfl) (le_b rfl) ?_
  obtain ⟨f29, e29⟩ : ∃ f29 : Nat → pE, f29 = wu f28 451 (.inl (1, 9, .inr (.inl (fun _ => 0)))) := ⟨_, rfl⟩
  have p1 : PlaneAt f29 1 2 := p1.kept (by rw [e29]; exact wu_n (by decide)) (fun i h1 h2 => by rw [e29]; exact wu_n (by omega))
  have p77 : PlaneAt f29 77 78 := p77.kept (by rw [e29]; exact wu_n (by decide)) (fun i h1 h2 => by rw [e29]; exact wu_n (by omega))
  have h154 : f29 154 = .inl (0, 900, .inl (fun _ => 0)) := by rw [e29]; exact (wu_n (by decide)).trans h154
  have h153 : f29 153 = .inr (2, [.ref 154, .int 0]) := by rw [e29]; exact (wu_n (by decide)).trans h153
  have h156 : f29 156 = .inl (1, 9, .inr (.inl (fun _ => 0))) := by rw [e29]; exact (wu_n (by decide)).trans h156
  have h157 : f29 157 = .inl (1, 9, .inr (.inl (fun _ => 0))) := by rw [e29]; exact (wu_n (by decide)).trans h157
  have p158 : QuadAt f29 158 159 := p158.kept (by rw [e29]; exact wu_n (by decide)) (fun i h1 h2 => by rw [e29]; exact wu_n (by omega))
  have h155 : f29 155 = .inr (3, [.ref 156, .ref 157, .ref 158]) := by rw [e29]; exact (wu_n (by decide)).trans h155
  have h165 : f29 165 = .inl (0, 8, .inl (fun _ => 0)) := by rw [e29]; exact (wu_n (by decide)).trans h165
  have h166 : f29 166 = .inl (0, 8, .inl (fun _ => 0)) := by rw [e29]; exact (wu_n (by decide)).trans h166
  have h167 : f29 167 = .inl (1, 3, .inr (.inl (fun _ => 0))) := by rw [e29]; exact (wu_n (by decide)).trans h167
  have h168 : f29 168 = .inl (1, 9, .inr (.inl (fun _ => 0))) := by rw [e29]; exact (wu_n (by decide)).trans h168
  have h164 : f29 164 = .inr (4, [.ref 153, .ref 155, .ref 165, .ref 166, .ref 167, .ref 168, .ref 77, .int 0, .int 0, .int 0, .int 0, .int 0, .int 0, .int (-1)]) := by rw [e29]; exact (wu_n (by decide)).trans h164
  have h170 : f29 170 = .inl (0, 16, .inl (fun _ => 0)) := by rw [e29]; exact (wu_n (by decide)).trans h170
  have h171 : f29 171 = .inl (0, 16, .inl (fun _ => 0)) := by rw [e29]; exact (wu_n (by decide)).trans h171
  have h172 : f29 172 = .inl (3, 16, refs (rows_of 172 16)) := by rw [e29]; exact (wu_n (by decide)).trans h172
  have h173 : ∀ i, i < 16 → f29 (173 + i) = .inl (1, 24, .inr (.inl (fun _ => 0))) := fun i hi => by rw [e29]; exact (wu_n (by omega)).trans (h173 i hi)
  have h169 : f29 169 = .inr (5, [.ref 170, .ref 171, .ref 172, .int 0, .int 0]) := by rw [e29]; exact (wu_n (by decide)).trans h169
  have h190 : f29 190 = .inl (3, 256, refs (rows_of 190 256)) := by rw [e29]; exact (wu_n (by decide)).trans h190
  have h191 : ∀ i, i < 256 → f29 (191 + i) = .inl (1, 9, .inr (.inl (fun _ => 0))) := fun i hi => by rw [e29]; exact (wu_n (by omega)).trans (h191 i hi)
  have h189 : f29 189 = .inr (6, [.ref 190, .int 0, .int 0]) := by rw [e29]; exact (wu_n (by decide)).trans h189
  have h448 : f29 448 = .inl (2, 16, .inl (fun _ => 0)) := by rw [e29]; exact (wu_n (by decide)).trans h448
  have h447 : f29 447 = .inr (7, [.ref 448, .int 0, .int 0, .int 0]) := by rw [e29]; exact (wu_n (by decide)).trans h447
  have h449 : f29 449 = .inl (1, 9, .inr (.inl (fun _ => 0))) := by rw [e29]; exact (wu_n (by decide)).trans h449
  have h450 : f29 450 = .inl (1, 9, .inr (.inl (fun _ => 0))) := by rw [e29]; exact (wu_n (by decide)).trans h450
  have h0 : f29 0 = .inr (8, [.ref 1, .ref 77, .ref 153, .ref 164, .ref 169, .ref 155, .ref 189, .ref 447, .ref 449, .ref 450, .null, .null, .null, .null, .null, .null, .null, .null]) := by rw [e29]; exact (wu_n (by decide)).trans h0
  have h451 : f29 451 = .inl (1, 9, .inr (.inl (fun _ => 0))) := by rw [e29]; exact wu_s _ _ _
  have o29 : ∀ i, (i < 451 ∨ 452 ≤ i) → f29 i = f28 i := fun i h1 => by rw [e29]; exact wu_n (by omega)
  show PW _ _ _ _ _ _ (125, [(0, .ref 0)], [.ref 451, .ref 0], (452, wu f28 451 (.inl (1, 9, .inr (.inl (fun _ => 0))))))
  rw [← e29]
  refine P_putF (i := 10) d_CM_init_125 ok_CM (by decide) rfl L_CM_72 rfl rfl h0 (fun _ => rfl) (fun _ => rfl) ?_
  obtain ⟨f30, e30⟩ : ∃ f30 : Nat → pE, f30 = wu f29 0 (.inr (8, [.ref 1, .ref 77, .ref 153, .ref 164, .ref 169, .ref 155, .ref 189, .ref 447, .ref 449, .ref 450, .ref 451, .null, .null, .null, .null, .null, .null, .null])) := ⟨_, rfl⟩
  have p1 : PlaneAt f30 1 2 := p1.kept (by rw [e30]; exact wu_n (by decide)) (fun i h1 h2 => by rw [e30]; exact wu_n (by omega))
  have p77 : PlaneAt f30 77 78 := p77.kept (by rw [e30]; exact wu_n (by decide)) (fun i h1 h2 => by rw [e30]; exact wu_n (by omega))
  have h154 : f30 154 = .inl (0, 900, .inl (fun _ => 0)) := by rw [e30]; exact (wu_n (by decide)).trans h154
  have h153 : f30 153 = .inr (2, [.ref 154, .int 0]) := by rw [e30]; exact (wu_n (by decide)).trans h153
  have h156 : f30 156 = .inl (1, 9, .inr (.inl (fun _ => 0))) := by rw [e30]; exact (wu_n (by decide)).trans h156
  have h157 : f30 157 = .inl (1, 9, .inr (.inl (fun _ => 0))) := by rw [e30]; exact (wu_n (by decide)).trans h157
  have p158 : QuadAt f30 158 159 := p158.kept (by rw [e30]; exact wu_n (by decide)) (fun i h1 h2 => by rw [e30]; exact wu_n (by omega))
  have h155 : f30 155 = .inr (3, [.ref 156, .ref 157, .ref 158]) := by rw [e30]; exact (wu_n (by decide)).trans h155
  have h165 : f30 165 = .inl (0, 8, .inl (fun _ => 0)) := by rw [e30]; exact (wu_n (by decide)).trans h165
  have h166 : f30 166 = .inl (0, 8, .inl (fun _ => 0)) := by rw [e30]; exact (wu_n (by decide)).trans h166
  have h167 : f30 167 = .inl (1, 3, .inr (.inl (fun _ => 0))) := by rw [e30]; exact (wu_n (by decide)).trans h167
  have h168 : f30 168 = .inl (1, 9, .inr (.inl (fun _ => 0))) := by rw [e30]; exact (wu_n (by decide)).trans h168
  have h164 : f30 164 = .inr (4, [.ref 153, .ref 155, .ref 165, .ref 166, .ref 167, .ref 168, .ref 77, .int 0, .int 0, .int 0, .int 0, .int 0, .int 0, .int (-1)]) := by rw [e30]; exact (wu_n (by decide)).trans h164
  have h170 : f30 170 = .inl (0, 16, .inl (fun _ => 0)) := by rw [e30]; exact (wu_n (by decide)).trans h170
  have h171 : f30 171 = .inl (0, 16, .inl (fun _ => 0)) := by rw [e30]; exact (wu_n (by decide)).trans h171
  have h172 : f30 172 = .inl (3, 16, refs (rows_of 172 16)) := by rw [e30]; exact (wu_n (by decide)).trans h172
  have h173 : ∀ i, i < 16 → f30 (173 + i) = .inl (1, 24, .inr (.inl (fun _ => 0))) := fun i hi => by rw [e30]; exact (wu_n (by omega)).trans (h173 i hi)
  have h169 : f30 169 = .inr (5, [.ref 170, .ref 171, .ref 172, .int 0, .int 0]) := by rw [e30]; exact (wu_n (by decide)).trans h169
  have h190 : f30 190 = .inl (3, 256, refs (rows_of 190 256)) := by rw [e30]; exact (wu_n (by decide)).trans h190
  have h191 : ∀ i, i < 256 → f30 (191 + i) = .inl (1, 9, .inr (.inl (fun _ => 0))) := fun i hi => by rw [e30]; exact (wu_n (by omega)).trans (h191 i hi)
  have h189 : f30 189 = .inr (6, [.ref 190, .int 0, .int 0]) := by rw [e30]; exact (wu_n (by decide)).trans h189
  have h448 : f30 448 = .inl (2, 16, .inl (fun _ => 0)) := by rw [e30]; exact (wu_n (by decide)).trans h448
  have h447 : f30 447 = .inr (7, [.ref 448, .int 0, .int 0, .int 0]) := by rw [e30]; exact (wu_n (by decide)).trans h447
  have h449 : f30 449 = .inl (1, 9, .inr (.inl (fun _ => 0))) := by rw [e30]; exact (wu_n (by decide)).trans h449
  have h450 : f30 450 = .inl (1, 9, .inr (.inl (fun _ => 0))) := by rw [e30]; exact (wu_n (by decide)).trans h450
  have h451 : f30 451 = .inl (1, 9, .inr (.inl (fun _ => 0))) := by rw [e30]; exact (wu_n (by decide)).trans h451
  have h0 : f30 0 = .inr (8, [.ref 1, .ref 77, .ref 153, .ref 164, .ref 169, .ref 155, .ref 189, .ref 447, .ref 449, .ref 450, .ref 451, .null, .null, .null, .null, .null, .null, .null]) := by rw [e30]; exact wu_s _ _ _
  have o30 : ∀ i, (i < 0 ∨ 1 ≤ i) → f30 i = f29 i := fun i h1 => by rw [e30]; exact wu_n (by omega)
  show PW _ _ _ _ _ _ (128, [(0, .ref 0)], [], (452, wu f29 0 (.inr (8, [.ref 1, .ref 77, .ref 153, .ref 164, .ref 169, .ref 155, .ref 189, .ref 447, .ref 449, .ref 450, .ref 451, .null, .null, .null, .null, .null, .null, .null]))))
  rw [← e30]
  refine P_aload_n d_CM_init_128 rfl ?_
  refine P_iconst (v := 3) d_CM_init_129 (by decide) ?_
  refine P_newarr (t := 1) (N := 3) (a0 := (3, .inr (.inl (fun _ => 0)))) d_CM_init_130 rfl (by decide) ac_long ⟨by decide, by decide⟩ (le_b rfl) ⟨rfl, fun _ _ => rfl⟩ (le_b rfl) (le_b rfl) (le_b rfl) ?_
  obtain ⟨f31, e31⟩ : ∃ f31 : Nat → pE, f31 = wu f30 452 (.inl (1, 3, .inr (.inl (fun _ => 0)))) := ⟨_, rfl⟩
  have p1 : PlaneAt f31 1 2 := p1.kept (by rw [e31]; exact wu_n (by decide)) (fun i h1 h2 => by rw [e31]; exact wu_n (by omega))
  have p77 : PlaneAt f31 77 78 := p77.kept (by rw [e31]; exact wu_n (by decide)) (fun i h1 h2 => by rw [e31]; exact wu_n (by omega))
  have h154 : f31 154 = .inl (0, 900, .inl (fun _ => 0)) := by rw [e31]; exact (wu_n (by decide)).trans h154
  have h153 : f31 153 = .inr (2, [.ref 154, .int 0]) := by rw [e31]; exact (wu_n (by decide)).trans h153
  have h156 : f31 156 = .inl (1, 9, .inr (.inl (fun _ => 0))) := by rw [e31]; exact (wu_n (by decide)).trans h156
  have h157 : f31 157 = .inl (1, 9, .inr (.inl (fun _ => 0))) := by rw [e31]; exact (wu_n (by decide)).trans h157
  have p158 : QuadAt f31 158 159 := p158.kept (by rw [e31]; exact wu_n (by decide)) (fun i h1 h2 => by rw [e31]; exact wu_n (by omega))
  have h155 : f31 155 = .inr (3, [.ref 156, .ref 157, .ref 158]) := by rw [e31]; exact (wu_n (by decide)).trans h155
  have h165 : f31 165 = .inl (0, 8, .inl (fun _ => 0)) := by rw [e31]; exact (wu_n (by decide)).trans h165
  have h166 : f31 166 = .inl (0, 8, .inl (fun _ => 0)) := by rw [e31]; exact (wu_n (by decide)).trans h166
  have h167 : f31 167 = .inl (1, 3, .inr (.inl (fun _ => 0))) := by rw [e31]; exact (wu_n (by decide)).trans h167
  have h168 : f31 168 = .inl (1, 9, .inr (.inl (fun _ => 0))) := by rw [e31]; exact (wu_n (by decide)).trans h168
  have h164 : f31 164 = .inr (4, [.ref 153, .ref 155, .ref 165, .ref 166, .ref 167, .ref 168, .ref 77, .int 0, .int 0, .int 0, .int 0, .int 0, .int 0, .int (-1)]) := by rw [e31]; exact (wu_n (by decide)).trans h164
  have h170 : f31 170 = .inl (0, 16, .inl (fun _ => 0)) := by rw [e31]; exact (wu_n (by decide)).trans h170
  have h171 : f31 171 = .inl (0, 16, .inl (fun _ => 0)) := by rw [e31]; exact (wu_n (by decide)).trans h171
  have h172 : f31 172 = .inl (3, 16, refs (rows_of 172 16)) := by rw [e31]; exact (wu_n (by decide)).trans h172
  have h173 : ∀ i, i < 16 → f31 (173 + i) = .inl (1, 24, .inr (.inl (fun _ => 0))) := fun i hi => by rw [e31]; exact (wu_n (by omega)).trans (h173 i hi)
  have h169 : f31 169 = .inr (5, [.ref 170, .ref 171, .ref 172, .int 0, .int 0]) := by rw [e31]; exact (wu_n (by decide)).trans h169
  have h190 : f31 190 = .inl (3, 256, refs (rows_of 190 256)) := by rw [e31]; exact (wu_n (by decide)).trans h190
  have h191 : ∀ i, i < 256 → f31 (191 + i) = .inl (1, 9, .inr (.inl (fun _ => 0))) := fun i hi => by rw [e31]; exact (wu_n (by omega)).trans (h191 i hi)
  have h189 : f31 189 = .inr (6, [.ref 190, .int 0, .int 0]) := by rw [e31]; exact (wu_n (by decide)).trans h189
  have h448 : f31 448 = .inl (2, 16, .inl (fun _ => 0)) := by rw [e31]; exact (wu_n (by decide)).trans h448
  have h447 : f31 447 = .inr (7, [.ref 448, .int 0, .int 0, .int 0]) := by rw [e31]; exact (wu_n (by decide)).trans h447
  have h449 : f31 449 = .inl (1, 9, .inr (.inl (fun _ => 0))) := by rw [e31]; exact (wu_n (by decide)).trans h449
  have h450 : f31 450 = .inl (1, 9, .inr (.inl (fun _ => 0))) := by rw [e31]; exact (wu_n (by decide)).trans h450
  have h451 : f31 451 = .inl (1, 9, .inr (.inl (fun _ => 0))) := by rw [e31]; exact (wu_n (by decide)).trans h451
  have h0 : f31 0 = .inr (8, [.ref 1, .ref 77, .ref 153, .ref 164, .ref 169, .ref 155, .ref 189, .ref 447, .ref 449, .ref 450, .ref 451, .null, .null, .null, .null, .null, .null, .null]) := by rw [e31]; exact (wu_n (by decide)).trans h0
  have h452 : f31 452 = .inl (1, 3, .inr (.inl (fun _ => 0))) := by rw [e31]; exact wu_s _ _ _
  have o31 : ∀ i, (i < 452 ∨ 453 ≤ i) → f31 i = f30 i := fun i h1 => by rw [e31]; exact wu_n (by omega)
  show PW _ _ _ _ _ _ (132, [(0, .ref 0)], [.ref 452, .ref 0], (453, wu f30 452 (.inl (1, 3, .inr (.inl (fun _ => 0))))))
  rw [← e31]
  refine P_putF (i := 11) d_CM_init_132 ok_CM (by decide) rfl L_CM_75 rfl rfl h0 (fun _ => rfl) (fun _ => rfl) ?_
  obtain ⟨f32, e32⟩ : ∃ f32 : Nat → pE, f32 = wu f31 0 (.inr (8, [.ref 1, .ref 77, .ref 153, .ref 164, .ref 169, .ref 155, .ref 189, .ref 447, .ref 449, .ref 450, .ref 451, .ref 452, .null, .null, .null, .null, .null, .null])) := ⟨_, rfl⟩
  have p1 : PlaneAt f32 1 2 := p1.kept (by rw [e32]; exact wu_n (by decide)) (fun i h1 h2 => by rw [e32]; exact wu_n (by omega))
  have p77 : PlaneAt f32 77 78 := p77.kept (by rw [e32]; exact wu_n (by decide)) (fun i h1 h2 => by rw [e32]; exact wu_n (by omega))
  have h154 : f32 154 = .inl (0, 900, .inl (fun _ => 0)) := by rw [e32]; exact (wu_n (by decide)).trans h154
  have h153 : f32 153 = .inr (2, [.ref 154, .int 0]) := by rw [e32]; exact (wu_n (by decide)).trans h153
  have h156 : f32 156 = .inl (1, 9, .inr (.inl (fun _ => 0))) := by rw [e32]; exact (wu_n (by decide)).trans h156
  have h157 : f32 157 = .inl (1, 9, .inr (.inl (fun _ => 0))) := by rw [e32]; exact (wu_n (by decide)).trans h157
  have p158 : QuadAt f32 158 159 := p158.kept (by rw [e32]; exact wu_n (by decide)) (fun i h1 h2 => by rw [e32]; exact wu_n (by omega))
  have h155 : f32 155 = .inr (3, [.ref 156, .ref 157, .ref 158]) := by rw [e32]; exact (wu_n (by decide)).trans h155
  have h165 : f32 165 = .inl (0, 8, .inl (fun _ => 0)) := by rw [e32]; exact (wu_n (by decide)).trans h165
  have h166 : f32 166 = .inl (0, 8, .inl (fun _ => 0)) := by rw [e32]; exact (wu_n (by decide)).trans h166
  have h167 : f32 167 = .inl (1, 3, .inr (.inl (fun _ => 0))) := by rw [e32]; exact (wu_n (by decide)).trans h167
  have h168 : f32 168 = .inl (1, 9, .inr (.inl (fun _ => 0))) := by rw [e32]; exact (wu_n (by decide)).trans h168
  have h164 : f32 164 = .inr (4, [.ref 153, .ref 155, .ref 165, .ref 166, .ref 167, .ref 168, .ref 77, .int 0, .int 0, .int 0, .int 0, .int 0, .int 0, .int (-1)]) := by rw [e32]; exact (wu_n (by decide)).trans h164
  have h170 : f32 170 = .inl (0, 16, .inl (fun _ => 0)) := by rw [e32]; exact (wu_n (by decide)).trans h170
  have h171 : f32 171 = .inl (0, 16, .inl (fun _ => 0)) := by rw [e32]; exact (wu_n (by decide)).trans h171
  have h172 : f32 172 = .inl (3, 16, refs (rows_of 172 16)) := by rw [e32]; exact (wu_n (by decide)).trans h172
  have h173 : ∀ i, i < 16 → f32 (173 + i) = .inl (1, 24, .inr (.inl (fun _ => 0))) := fun i hi => by rw [e32]; exact (wu_n (by omega)).trans (h173 i hi)
  have h169 : f32 169 = .inr (5, [.ref 170, .ref 171, .ref 172, .int 0, .int 0]) := by rw [e32]; exact (wu_n (by decide)).trans h169
  have h190 : f32 190 = .inl (3, 256, refs (rows_of 190 256)) := by rw [e32]; exact (wu_n (by decide)).trans h190
  have h191 : ∀ i, i < 256 → f32 (191 + i) = .inl (1, 9, .inr (.inl (fun _ => 0))) := fun i hi => by rw [e32]; exact (wu_n (by omega)).trans (h191 i hi)
  have h189 : f32 189 = .inr (6, [.ref 190, .int 0, .int 0]) := by rw [e32]; exact (wu_n (by decide)).trans h189
  have h448 : f32 448 = .inl (2, 16, .inl (fun _ => 0)) := by rw [e32]; exact (wu_n (by decide)).trans h448
  have h447 : f32 447 = .inr (7, [.ref 448, .int 0, .int 0, .int 0]) := by rw [e32]; exact (wu_n (by decide)).trans h447
  have h449 : f32 449 = .inl (1, 9, .inr (.inl (fun _ => 0))) := by rw [e32]; exact (wu_n (by decide)).trans h449
  have h450 : f32 450 = .inl (1, 9, .inr (.inl (fun _ => 0))) := by rw [e32]; exact (wu_n (by decide)).trans h450
  have h451 : f32 451 = .inl (1, 9, .inr (.inl (fun _ => 0))) := by rw [e32]; exact (wu_n (by decide)).trans h451
  have h452 : f32 452 = .inl (1, 3, .inr (.inl (fun _ => 0))) := by rw [e32]; exact (wu_n (by decide)).trans h452
  have h0 : f32 0 = .inr (8, [.ref 1, .ref 77, .ref 153, .ref 164, .ref 169, .ref 155, .ref 189, .ref 447, .ref 449, .ref 450, .ref 451, .ref 452, .null, .null, .null, .null, .null, .null]) := by rw [e32]; exact wu_s _ _ _
  have o32 : ∀ i, (i < 0 ∨ 1 ≤ i) → f32 i = f31 i := fun i h1 => by rw [e32]; exact wu_n (by omega)
  show PW _ _ _ _ _ _ (135, [(0, .ref 0)], [], (453, wu f31 0 (.inr (8, [.ref 1, .ref 77, .ref 153, .ref 164, .ref 169, .ref 155, .ref 189, .ref 447, .ref 449, .ref 450, .ref 451, .ref 452, .null, .null, .null, .null, .null, .null]))))
  rw [← e32]
  refine P_aload_n d_CM_init_135 rfl ?_
  refine P_iconst (v := 3) d_CM_init_136 (by decide) ?_
  refine P_newarr (t := 1) (N := 3) (a0 := (3, .inr (.inl (fun _ => 0)))) d_CM_init_137 rfl (by decide) ac_long ⟨by decide, by decide⟩ (le_b rfl) ⟨rfl, fun _ _ => rfl⟩ (le_b rfl) (le_b rfl) (le_b rfl) ?_
  obtain ⟨f33, e33⟩ : ∃ f33 : Nat → pE, f33 = wu f32 453 (.inl (1, 3, .inr (.inl (fun _ => 0)))) := ⟨_, rfl⟩
  have p1 : PlaneAt f33 1 2 := p1.kept (by rw [e33]; exact wu_n (by decide)) (fun i h1 h2 => by rw [e33]; exact wu_n (by omega))
  have p77 : PlaneAt f33 77 78 := p77.kept (by rw [e33]; exact wu_n (by decide)) (fun i h1 h2 => by rw [e33]; exact wu_n (by omega))
  have h154 : f33 154 = .inl (0, 900, .inl (fun _ => 0)) := by rw [e33]; exact (wu_n (by decide)).trans h154
  have h153 : f33 153 = .inr (2, [.ref 154, .int 0]) := by rw [e33]; exact (wu_n (by decide)).trans h153
  have h156 : f33 156 = .inl (1, 9, .inr (.inl (fun _ => 0))) := by rw [e33]; exact (wu_n (by decide)).trans h156
  have h157 : f33 157 = .inl (1, 9, .inr (.inl (fun _ => 0))) := by rw [e33]; exact (wu_n (by decide)).trans h157
  have p158 : QuadAt f33 158 159 := p158.kept (by rw [e33]; exact wu_n (by decide)) (fun i h1 h2 => by rw [e33]; exact wu_n (by omega))
  have h155 : f33 155 = .inr (3, [.ref 156, .ref 157, .ref 158]) := by rw [e33]; exact (wu_n (by decide)).trans h155
  have h165 : f33 165 = .inl (0, 8, .inl (fun _ => 0)) := by rw [e33]; exact (wu_n (by decide)).trans h165
  have h166 : f33 166 = .inl (0, 8, .inl (fun _ => 0)) := by rw [e33]; exact (wu_n (by decide)).trans h166
  have h167 : f33 167 = .inl (1, 3, .inr (.inl (fun _ => 0))) := by rw [e33]; exact (wu_n (by decide)).trans h167
  have h168 : f33 168 = .inl (1, 9, .inr (.inl (fun _ => 0))) := by rw [e33]; exact (wu_n (by decide)).trans h168
  have h164 : f33 164 = .inr (4, [.ref 153, .ref 155, .ref 165, .ref 166, .ref 167, .ref 168, .ref 77, .int 0, .int 0, .int 0, .int 0, .int 0, .int 0, .int (-1)]) := by rw [e33]; exact (wu_n (by decide)).trans h164
  have h170 : f33 170 = .inl (0, 16, .inl (fun _ => 0)) := by rw [e33]; exact (wu_n (by decide)).trans h170
  have h171 : f33 171 = .inl (0, 16, .inl (fun _ => 0)) := by rw [e33]; exact (wu_n (by decide)).trans h171
  have h172 : f33 172 = .inl (3, 16, refs (rows_of 172 16)) := by rw [e33]; exact (wu_n (by decide)).trans h172
  have h173 : ∀ i, i < 16 → f33 (173 + i) = .inl (1, 24, .inr (.inl (fun _ => 0))) := fun i hi => by rw [e33]; exact (wu_n (by omega)).trans (h173 i hi)
  have h169 : f33 169 = .inr (5, [.ref 170, .ref 171, .ref 172, .int 0, .int 0]) := by rw [e33]; exact (wu_n (by decide)).trans h169
  have h190 : f33 190 = .inl (3, 256, refs (rows_of 190 256)) := by rw [e33]; exact (wu_n (by decide)).trans h190
  have h191 : ∀ i, i < 256 → f33 (191 + i) = .inl (1, 9, .inr (.inl (fun _ => 0))) := fun i hi => by rw [e33]; exact (wu_n (by omega)).trans (h191 i hi)
  have h189 : f33 189 = .inr (6, [.ref 190, .int 0, .int 0]) := by rw [e33]; exact (wu_n (by decide)).trans h189
  have h448 : f33 448 = .inl (2, 16, .inl (fun _ => 0)) := by rw [e33]; exact (wu_n (by decide)).trans h448
  have h447 : f33 447 = .inr (7, [.ref 448, .int 0, .int 0, .int 0]) := by rw [e33]; exact (wu_n (by decide)).trans h447
  have h449 : f33 449 = .inl (1, 9, .inr (.inl (fun _ => 0))) := by rw [e33]; exact (wu_n (by decide)).trans h449
  have h450 : f33 450 = .inl (1, 9, .inr (.inl (fun _ => 0))) := by rw [e33]; exact (wu_n (by decide)).trans h450
  have h451 : f33 451 = .inl (1, 9, .inr (.inl (fun _ => 0))) := by rw [e33]; exact (wu_n (by decide)).trans h451
  have h452 : f33 452 = .inl (1, 3, .inr (.inl (fun _ => 0))) := by rw [e33]; exact (wu_n (by decide)).trans h452
  have h0 : f33 0 = .inr (8, [.ref 1, .ref 77, .ref 153, .ref 164, .ref 169, .ref 155, .ref 189, .ref 447, .ref 449, .ref 450, .ref 451, .ref 452, .null, .null, .null, .null, .null, .null]) := by rw [e33]; exact (wu_n (by decide)).trans h0
  have h453 : f33 453 = .inl (1, 3, .inr (.inl (fun _ => 0))) := by rw [e33]; exact wu_s _ _ _
  have o33 : ∀ i, (i < 453 ∨ 454 ≤ i) → f33 i = f32 i := fun i h1 => by rw [e33]; exact wu_n (by omega)
  show PW _ _ _ _ _ _ (139, [(0, .ref 0)], [.ref 453, .ref 0], (454, wu f32 453 (.inl (1, 3, .inr (.inl (fun _ => 0))))))
  rw [← e33]
  refine P_putF (i := 12) d_CM_init_139 ok_CM (by decide) rfl L_CM_78 rfl rfl h0 (fun _ => rfl) (fun _ => rfl) ?_
  obtain ⟨f34, e34⟩ : ∃ f34 : Nat → pE, f34 = wu f33 0 (.inr (8, [.ref 1, .ref 77, .ref 153, .ref 164, .ref 169, .ref 155, .ref 189, .ref 447, .ref 449, .ref 450, .ref 451, .ref 452, .ref 453, .null, .null, .null, .null, .null])) := ⟨_, rfl⟩
  have p1 : PlaneAt f34 1 2 := p1.kept (by rw [e34]; exact wu_n (by decide)) (fun i h1 h2 => by rw [e34]; exact wu_n (by omega))
  have p77 : PlaneAt f34 77 78 := p77.kept (by rw [e34]; exact wu_n (by decide)) (fun i h1 h2 => by rw [e34]; exact wu_n (by omega))
  have h154 : f34 154 = .inl (0, 900, .inl (fun _ => 0)) := by rw [e34]; exact (wu_n (by decide)).trans h154
  have h153 : f34 153 = .inr (2, [.ref 154, .int 0]) := by rw [e34]; exact (wu_n (by decide)).trans h153
  have h156 : f34 156 = .inl (1, 9, .inr (.inl (fun _ => 0))) := by rw [e34]; exact (wu_n (by decide)).trans h156
  have h157 : f34 157 = .inl (1, 9, .inr (.inl (fun _ => 0))) := by rw [e34]; exact (wu_n (by decide)).trans h157
  have p158 : QuadAt f34 158 159 := p158.kept (by rw [e34]; exact wu_n (by decide)) (fun i h1 h2 => by rw [e34]; exact wu_n (by omega))
  have h155 : f34 155 = .inr (3, [.ref 156, .ref 157, .ref 158]) := by rw [e34]; exact (wu_n (by decide)).trans h155
  have h165 : f34 165 = .inl (0, 8, .inl (fun _ => 0)) := by rw [e34]; exact (wu_n (by decide)).trans h165
  have h166 : f34 166 = .inl (0, 8, .inl (fun _ => 0)) := by rw [e34]; exact (wu_n (by decide)).trans h166
  have h167 : f34 167 = .inl (1, 3, .inr (.inl (fun _ => 0))) := by rw [e34]; exact (wu_n (by decide)).trans h167
  have h168 : f34 168 = .inl (1, 9, .inr (.inl (fun _ => 0))) := by rw [e34]; exact (wu_n (by decide)).trans h168
  have h164 : f34 164 = .inr (4, [.ref 153, .ref 155, .ref 165, .ref 166, .ref 167, .ref 168, .ref 77, .int 0, .int 0, .int 0, .int 0, .int 0, .int 0, .int (-1)]) := by rw [e34]; exact (wu_n (by decide)).trans h164
  have h170 : f34 170 = .inl (0, 16, .inl (fun _ => 0)) := by rw [e34]; exact (wu_n (by decide)).trans h170
  have h171 : f34 171 = .inl (0, 16, .inl (fun _ => 0)) := by rw [e34]; exact (wu_n (by decide)).trans h171
  have h172 : f34 172 = .inl (3, 16, refs (rows_of 172 16)) := by rw [e34]; exact (wu_n (by decide)).trans h172
  have h173 : ∀ i, i < 16 → f34 (173 + i) = .inl (1, 24, .inr (.inl (fun _ => 0))) := fun i hi => by rw [e34]; exact (wu_n (by omega)).trans (h173 i hi)
  have h169 : f34 169 = .inr (5, [.ref 170, .ref 171, .ref 172, .int 0, .int 0]) := by rw [e34]; exact (wu_n (by decide)).trans h169
  have h190 : f34 190 = .inl (3, 256, refs (rows_of 190 256)) := by rw [e34]; exact (wu_n (by decide)).trans h190
  have h191 : ∀ i, i < 256 → f34 (191 + i) = .inl (1, 9, .inr (.inl (fun _ => 0))) := fun i hi => by rw [e34]; exact (wu_n (by omega)).trans (h191 i hi)
  have h189 : f34 189 = .inr (6, [.ref 190, .int 0, .int 0]) := by rw [e34]; exact (wu_n (by decide)).trans h189
  have h448 : f34 448 = .inl (2, 16, .inl (fun _ => 0)) := by rw [e34]; exact (wu_n (by decide)).trans h448
  have h447 : f34 447 = .inr (7, [.ref 448, .int 0, .int 0, .int 0]) := by rw [e34]; exact (wu_n (by decide)).trans h447
  have h449 : f34 449 = .inl (1, 9, .inr (.inl (fun _ => 0))) := by rw [e34]; exact (wu_n (by decide)).trans h449
  have h450 : f34 450 = .inl (1, 9, .inr (.inl (fun _ => 0))) := by rw [e34]; exact (wu_n (by decide)).trans h450
  have h451 : f34 451 = .inl (1, 9, .inr (.inl (fun _ => 0))) := by rw [e34]; exact (wu_n (by decide)).trans h451
  have h452 : f34 452 = .inl (1, 3, .inr (.inl (fun _ => 0))) := by rw [e34]; exact (wu_n (by decide)).trans h452
  have h453 : f34 453 = .inl (1, 3, .inr (.inl (fun _ => 0))) := by rw [e34]; exact (wu_n (by decide)).trans h453
  have h0 : f34 0 = .inr (8, [.ref 1, .ref 77, .ref 153, .ref 164, .ref 169, .ref 155, .ref 189, .ref 447, .ref 449, .ref 450, .ref 451, .ref 452, .ref 453, .null, .null, .null, .null, .null]) := by rw [e34]; exact wu_s _ _ _
  have o34 : ∀ i, (i < 0 ∨ 1 ≤ i) → f34 i = f33 i := fun i h1 => by rw [e34]; exact wu_n (by omega)
  show PW _ _ _ _ _ _ (142, [(0, .ref 0)], [], (454, wu f33 0 (.inr (8, [.ref 1, .ref 77, .ref 153, .ref 164, .ref 169, .ref 155, .ref 189, .ref 447, .ref 449, .ref 450, .ref 451, .ref 452, .ref 453, .null, .null, .null, .null, .null]))))
  rw [← e34]
  refine P_aload_n d_CM_init_142 rfl ?_
  refine P_iconst (v := 3) d_CM_init_143 (by decide) ?_
  refine P_newarr (t := 1) (N := 3) (a0 := (3, .inr (.inl (fun _ => 0)))) d_CM_init_144 rfl (by decide) ac_long ⟨by decide, by decide⟩ (le_b rfl) ⟨rfl, fun _ _ => rfl⟩ (le_b rfl) (le_b rfl) (le_b rfl) ?_
  obtain ⟨f35, e35⟩ : ∃ f35 : Nat → pE, f35 = wu f34 454 (.inl (1, 3, .inr (.inl (fun _ => 0)))) := ⟨_, rfl⟩
  have p1 : PlaneAt f35 1 2 := p1.kept (by rw [e35]; exact wu_n (by decide)) (fun i h1 h2 => by rw [e35]; exact wu_n (by omega))
  have p77 : PlaneAt f35 77 78 := p77.kept (by rw [e35]; exact wu_n (by decide)) (fun i h1 h2 => by rw [e35]; exact wu_n (by omega))
  have h154 : f35 154 = .inl (0, 900, .inl (fun _ => 0)) := by rw [e35]; exact (wu_n (by decide)).trans h154
  have h153 : f35 153 = .inr (2, [.ref 154, .int 0]) := by rw [e35]; exact (wu_n (by decide)).trans h153
  have h156 : f35 156 = .inl (1, 9, .inr (.inl (fun _ => 0))) := by rw [e35]; exact (wu_n (by decide)).trans h156
  have h157 : f35 157 = .inl (1, 9, .inr (.inl (fun _ => 0))) := by rw [e35]; exact (wu_n (by decide)).trans h157
  have p158 : QuadAt f35 158 159 := p158.kept (by rw [e35]; exact wu_n (by decide)) (fun i h1 h2 => by rw [e35]; exact wu_n (by omega))
  have h155 : f35 155 = .inr (3, [.ref 156, .ref 157, .ref 158]) := by rw [e35]; exact (wu_n (by decide)).trans h155
  have h165 : f35 165 = .inl (0, 8, .inl (fun _ => 0)) := by rw [e35]; exact (wu_n (by decide)).trans h165
  have h166 : f35 166 = .inl (0, 8, .inl (fun _ => 0)) := by rw [e35]; exact (wu_n (by decide)).trans h166
  have h167 : f35 167 = .inl (1, 3, .inr (.inl (fun _ => 0))) := by rw [e35]; exact (wu_n (by decide)).trans h167
  have h168 : f35 168 = .inl (1, 9, .inr (.inl (fun _ => 0))) := by rw [e35]; exact (wu_n (by decide)).trans h168
  have h164 : f35 164 = .inr (4, [.ref 153, .ref 155, .ref 165, .ref 166, .ref 167, .ref 168, .ref 77, .int 0, .int 0, .int 0, .int 0, .int 0, .int 0, .int (-1)]) := by rw [e35]; exact (wu_n (by decide)).trans h164
  have h170 : f35 170 = .inl (0, 16, .inl (fun _ => 0)) := by rw [e35]; exact (wu_n (by decide)).trans h170
  have h171 : f35 171 = .inl (0, 16, .inl (fun _ => 0)) := by rw [e35]; exact (wu_n (by decide)).trans h171
  have h172 : f35 172 = .inl (3, 16, refs (rows_of 172 16)) := by rw [e35]; exact (wu_n (by decide)).trans h172
  have h173 : ∀ i, i < 16 → f35 (173 + i) = .inl (1, 24, .inr (.inl (fun _ => 0))) := fun i hi => by rw [e35]; exact (wu_n (by omega)).trans (h173 i hi)
  have h169 : f35 169 = .inr (5, [.ref 170, .ref 171, .ref 172, .int 0, .int 0]) := by rw [e35]; exact (wu_n (by decide)).trans h169
  have h190 : f35 190 = .inl (3, 256, refs (rows_of 190 256)) := by rw [e35]; exact (wu_n (by decide)).trans h190
  have h191 : ∀ i, i < 256 → f35 (191 + i) = .inl (1, 9, .inr (.inl (fun _ => 0))) := fun i hi => by rw [e35]; exact (wu_n (by omega)).trans (h191 i hi)
  have h189 : f35 189 = .inr (6, [.ref 190, .int 0, .int 0]) := by rw [e35]; exact (wu_n (by decide)).trans h189
  have h448 : f35 448 = .inl (2, 16, .inl (fun _ => 0)) := by rw [e35]; exact (wu_n (by decide)).trans h448
  have h447 : f35 447 = .inr (7, [.ref 448, .int 0, .int 0, .int 0]) := by rw [e35]; exact (wu_n (by decide)).trans h447
  have h449 : f35 449 = .inl (1, 9, .inr (.inl (fun _ => 0))) := by rw [e35]; exact (wu_n (by decide)).trans h449
  have h450 : f35 450 = .inl (1, 9, .inr (.inl (fun _ => 0))) := by rw [e35]; exact (wu_n (by decide)).trans h450
  have h451 : f35 451 = .inl (1, 9, .inr (.inl (fun _ => 0))) := by rw [e35]; exact (wu_n (by decide)).trans h451
  have h452 : f35 452 = .inl (1, 3, .inr (.inl (fun _ => 0))) := by rw [e35]; exact (wu_n (by decide)).trans h452
  have h453 : f35 453 = .inl (1, 3, .inr (.inl (fun _ => 0))) := by rw [e35]; exact (wu_n (by decide)).trans h453
  have h0 : f35 0 = .inr (8, [.ref 1, .ref 77, .ref 153, .ref 164, .ref 169, .ref 155, .ref 189, .ref 447, .ref 449, .ref 450, .ref 451, .ref 452, .ref 453, .null, .null, .null, .null, .null]) := by rw [e35]; exact (wu_n (by decide)).trans h0
  have h454 : f35 454 = .inl (1, 3, .inr (.inl (fun _ => 0))) := by rw [e35]; exact wu_s _ _ _
  have o35 : ∀ i, (i < 454 ∨ 455 ≤ i) → f35 i = f34 i := fun i h1 => by rw [e35]; exact wu_n (by omega)
  show PW _ _ _ _ _ _ (146, [(0, .ref 0)], [.ref 454, .ref 0], (455, wu f34 454 (.inl (1, 3, .inr (.inl (fun _ => 0))))))
  rw [← e35]
  refine P_putF (i := 13) d_CM_init_146 ok_CM (by decide) rfl L_CM_81 rfl rfl h0 (fun _ => rfl) (fun _ => rfl) ?_
  obtain ⟨f36, e36⟩ : ∃ f36 : Nat → pE, f36 = wu f35 0 (.inr (8, [.ref 1, .ref 77, .ref 153, .ref 164, .ref 169, .ref 155, .ref 189, .ref 447, .ref 449, .ref 450, .ref 451, .ref 452, .ref 453, .ref 454, .null, .null, .null, .null])) := ⟨_, rfl⟩
  have p1 : PlaneAt f36 1 2 := p1.kept (by rw [e36]; exact wu_n (by decide)) (fun i h1 h2 => by rw [e36]; exact wu_n (by omega))
  have p77 : PlaneAt f36 77 78 := p77.kept (by rw [e36]; exact wu_n (by decide)) (fun i h1 h2 => by rw [e36]; exact wu_n (by omega))
  have h154 : f36 154 = .inl (0, 900, .inl (fun _ => 0)) := by rw [e36]; exact (wu_n (by decide)).trans h154
  have h153 : f36 153 = .inr (2, [.ref 154, .int 0]) := by rw [e36]; exact (wu_n (by decide)).trans h153
  have h156 : f36 156 = .inl (1, 9, .inr (.inl (fun _ => 0))) := by rw [e36]; exact (wu_n (by decide)).trans h156
  have h157 : f36 157 = .inl (1, 9, .inr (.inl (fun _ => 0))) := by rw [e36]; exact (wu_n (by decide)).trans h157
  have p158 : QuadAt f36 158 159 := p158.kept (by rw [e36]; exact wu_n (by decide)) (fun i h1 h2 => by rw [e36]; exact wu_n (by omega))
  have h155 : f36 155 = .inr (3, [.ref 156, .ref 157, .ref 158]) := by rw [e36]; exact (wu_n (by decide)).trans h155
  have h165 : f36 165 = .inl (0, 8, .inl (fun _ => 0)) := by rw [e36]; exact (wu_n (by decide)).trans h165
  have h166 : f36 166 = .inl (0, 8, .inl (fun _ => 0)) := by rw [e36]; exact (wu_n (by decide)).trans h166
  have h167 : f36 167 = .inl (1, 3, .inr (.inl (fun _ => 0))) := by rw [e36]; exact (wu_n (by decide)).trans h167
  have h168 : f36 168 = .inl (1, 9, .inr (.inl (fun _ => 0))) := by rw [e36]; exact (wu_n (by decide)).trans h168
  have h164 : f36 164 = .inr (4, [.ref 153, .ref 155, .ref 165, .ref 166, .ref 167, .ref 168, .ref 77, .int 0, .int 0, .int 0, .int 0, .int 0, .int 0, .int (-1)]) := by rw [e36]; exact (wu_n (by decide)).trans h164
  have h170 : f36 170 = .inl (0, 16, .inl (fun _ => 0)) := by rw [e36]; exact (wu_n (by decide)).trans h170
  have h171 : f36 171 = .inl (0, 16, .inl (fun _ => 0)) := by rw [e36]; exact (wu_n (by decide)).trans h171
  have h172 : f36 172 = .inl (3, 16, refs (rows_of 172 16)) := by rw [e36]; exact (wu_n (by decide)).trans h172
  have h173 : ∀ i, i < 16 → f36 (173 + i) = .inl (1, 24, .inr (.inl (fun _ => 0))) := fun i hi => by rw [e36]; exact (wu_n (by omega)).trans (h173 i hi)
  have h169 : f36 169 = .inr (5, [.ref 170, .ref 171, .ref 172, .int 0, .int 0]) := by rw [e36]; exact (wu_n (by decide)).trans h169
  have h190 : f36 190 = .inl (3, 256, refs (rows_of 190 256)) := by rw [e36]; exact (wu_n (by decide)).trans h190
  have h191 : ∀ i, i < 256 → f36 (191 + i) = .inl (1, 9, .inr (.inl (fun _ => 0))) := fun i hi => by rw [e36]; exact (wu_n (by omega)).trans (h191 i hi)
  have h189 : f36 189 = .inr (6, [.ref 190, .int 0, .int 0]) := by rw [e36]; exact (wu_n (by decide)).trans h189
  have h448 : f36 448 = .inl (2, 16, .inl (fun _ => 0)) := by rw [e36]; exact (wu_n (by decide)).trans h448
  have h447 : f36 447 = .inr (7, [.ref 448, .int 0, .int 0, .int 0]) := by rw [e36]; exact (wu_n (by decide)).trans h447
  have h449 : f36 449 = .inl (1, 9, .inr (.inl (fun _ => 0))) := by rw [e36]; exact (wu_n (by decide)).trans h449
  have h450 : f36 450 = .inl (1, 9, .inr (.inl (fun _ => 0))) := by rw [e36]; exact (wu_n (by decide)).trans h450
  have h451 : f36 451 = .inl (1, 9, .inr (.inl (fun _ => 0))) := by rw [e36]; exact (wu_n (by decide)).trans h451
  have h452 : f36 452 = .inl (1, 3, .inr (.inl (fun _ => 0))) := by rw [e36]; exact (wu_n (by decide)).trans h452
  have h453 : f36 453 = .inl (1, 3, .inr (.inl (fun _ => 0))) := by rw [e36]; exact (wu_n (by decide)).trans h453
  have h454 : f36 454 = .inl (1, 3, .inr (.inl (fun _ => 0))) := by rw [e36]; exact (wu_n (by decide)).trans h454
  have h0 : f36 0 = .inr (8, [.ref 1, .ref 77, .ref 153, .ref 164, .ref 169, .ref 155, .ref 189, .ref 447, .ref 449, .ref 450, .ref 451, .ref 452, .ref 453, .ref 454, .null, .null, .null, .null]) := by rw [e36]; exact wu_s _ _ _
  have o36 : ∀ i, (i < 0 ∨ 1 ≤ i) → f36 i = f35 i := fun i h1 => by rw [e36]; exact wu_n (by omega)
  show PW _ _ _ _ _ _ (149, [(0, .ref 0)], [], (455, wu f35 0 (.inr (8, [.ref 1, .ref 77, .ref 153, .ref 164, .ref 169, .ref 155, .ref 189, .ref 447, .ref 449, .ref 450, .ref 451, .ref 452, .ref 453, .ref 454, .null, .null, .null, .null]))))
  rw [← e36]
  refine P_aload_n d_CM_init_149 rfl ?_
  refine P_iconst (v := 3) d_CM_init_150 (by decide) ?_
  refine P_newarr (t := 1) (N := 3) (a0 := (3, .inr (.inl (fun _ => 0)))) d_CM_init_151 rfl (by decide) ac_long ⟨by decide, by decide⟩ (le_b rfl) ⟨rfl, fun _ _ => rfl⟩ (le_b rfl) (le_b rfl) (le_b rfl) ?_
  obtain ⟨f37, e37⟩ : ∃ f37 : Nat → pE, f37 = wu f36 455 (.inl (1, 3, .inr (.inl (fun _ => 0)))) := ⟨_, rfl⟩
  have p1 : PlaneAt f37 1 2 := p1.kept (by rw [e37]; exact wu_n (by decide)) (fun i h1 h2 => by rw [e37]; exact wu_n (by omega))
  have p77 : PlaneAt f37 77 78 := p77.kept (by rw [e37]; exact wu_n (by decide)) (fun i h1 h2 => by rw [e37]; exact wu_n (by omega))
  have h154 : f37 154 = .inl (0, 900, .inl (fun _ => 0)) := by rw [e37]; exact (wu_n (by decide)).trans h154
  have h153 : f37 153 = .inr (2, [.ref 154, .int 0]) := by rw [e37]; exact (wu_n (by decide)).trans h153
  have h156 : f37 156 = .inl (1, 9, .inr (.inl (fun _ => 0))) := by rw [e37]; exact (wu_n (by decide)).trans h156
  have h157 : f37 157 = .inl (1, 9, .inr (.inl (fun _ => 0))) := by rw [e37]; exact (wu_n (by decide)).trans h157
  have p158 : QuadAt f37 158 159 := p158.kept (by rw [e37]; exact wu_n (by decide)) (fun i h1 h2 => by rw [e37]; exact wu_n (by omega))
  have h155 : f37 155 = .inr (3, [.ref 156, .ref 157, .ref 158]) := by rw [e37]; exact (wu_n (by decide)).trans h155
  have h165 : f37 165 = .inl (0, 8, .inl (fun _ => 0)) := by rw [e37]; exact (wu_n (by decide)).trans h165
  have h166 : f37 166 = .inl (0, 8, .inl (fun _ => 0)) := by rw [e37]; exact (wu_n (by decide)).trans h166
  have h167 : f37 167 = .inl (1, 3, .inr (.inl (fun _ => 0))) := by rw [e37]; exact (wu_n (by decide)).trans h167
  have h168 : f37 168 = .inl (1, 9, .inr (.inl (fun _ => 0))) := by rw [e37]; exact (wu_n (by decide)).trans h168
  have h164 : f37 164 = .inr (4, [.ref 153, .ref 155, .ref 165, .ref 166, .ref 167, .ref 168, .ref 77, .int 0, .int 0, .int 0, .int 0, .int 0, .int 0, .int (-1)]) := by rw [e37]; exact (wu_n (by decide)).trans h164
  have h170 : f37 170 = .inl (0, 16, .inl (fun _ => 0)) := by rw [e37]; exact (wu_n (by decide)).trans h170
  have h171 : f37 171 = .inl (0, 16, .inl (fun _ => 0)) := by rw [e37]; exact (wu_n (by decide)).trans h171
  have h172 : f37 172 = .inl (3, 16, refs (rows_of 172 16)) := by rw [e37]; exact (wu_n (by decide)).trans h172
  have h173 : ∀ i, i < 16 → f37 (173 + i) = .inl (1, 24, .inr (.inl (fun _ => 0))) := fun i hi => by rw [e37]; exact (wu_n (by omega)).trans (h173 i hi)
  have h169 : f37 169 = .inr (5, [.ref 170, .ref 171, .ref 172, .int 0, .int 0]) := by rw [e37]; exact (wu_n (by decide)).trans h169
  have h190 : f37 190 = .inl (3, 256, refs (rows_of 190 256)) := by rw [e37]; exact (wu_n (by decide)).trans h190
  have h191 : ∀ i, i < 256 → f37 (191 + i) = .inl (1, 9, .inr (.inl (fun _ => 0))) := fun i hi => by rw [e37]; exact (wu_n (by omega)).trans (h191 i hi)
  have h189 : f37 189 = .inr (6, [.ref 190, .int 0, .int 0]) := by rw [e37]; exact (wu_n (by decide)).trans h189
  have h448 : f37 448 = .inl (2, 16, .inl (fun _ => 0)) := by rw [e37]; exact (wu_n (by decide)).trans h448
  have h447 : f37 447 = .inr (7, [.ref 448, .int 0, .int 0, .int 0]) := by rw [e37]; exact (wu_n (by decide)).trans h447
  have h449 : f37 449 = .inl (1, 9, .inr (.inl (fun _ => 0))) := by rw [e37]; exact (wu_n (by decide)).trans h449
  have h450 : f37 450 = .inl (1, 9, .inr (.inl (fun _ => 0))) := by rw [e37]; exact (wu_n (by decide)).trans h450
  have h451 : f37 451 = .inl (1, 9, .inr (.inl (fun _ => 0))) := by rw [e37]; exact (wu_n (by decide)).trans h451
  have h452 : f37 452 = .inl (1, 3, .inr (.inl (fun _ => 0))) := by rw [e37]; exact (wu_n (by decide)).trans h452
  have h453 : f37 453 = .inl (1, 3, .inr (.inl (fun _ => 0))) := by rw [e37]; exact (wu_n (by decide)).trans h453
  have h454 : f37 454 = .inl (1, 3, .inr (.inl (fun _ => 0))) := by rw [e37]; exact (wu_n (by decide)).trans h454
  have h0 : f37 0 = .inr (8, [.ref 1, .ref 77, .ref 153, .ref 164, .ref 169, .ref 155, .ref 189, .ref 447, .ref 449, .ref 450, .ref 451, .ref 452, .ref 453, .ref 454, .null, .null, .null, .null]) := by rw [e37]; exact (wu_n (by decide)).trans h0
  have h455 : f37 455 = .inl (1, 3, .inr (.inl (fun _ => 0))) := by rw [e37]; exact wu_s _ _ _
  have o37 : ∀ i, (i < 455 ∨ 456 ≤ i) → f37 i = f36 i := fun i h1 => by rw [e37]; exact wu_n (by omega)
  show PW _ _ _ _ _ _ (153, [(0, .ref 0)], [.ref 455, .ref 0], (456, wu f36 455 (.inl (1, 3, .inr (.inl (fun _ => 0))))))
  rw [← e37]
  refine P_putF (i := 14) d_CM_init_153 ok_CM (by decide) rfl L_CM_84 rfl rfl h0 (fun _ => rfl) (fun _ => rfl) ?_
  obtain ⟨f38, e38⟩ : ∃ f38 : Nat → pE, f38 = wu f37 0 (.inr (8, [.ref 1, .ref 77, .ref 153, .ref 164, .ref 169, .ref 155, .ref 189, .ref 447, .ref 449, .ref 450, .ref 451, .ref 452, .ref 453, .ref 454, .ref 455, .null, .null, .null])) := ⟨_, rfl⟩
  have p1 : PlaneAt f38 1 2 := p1.kept (by rw [e38]; exact wu_n (by decide)) (fun i h1 h2 => by rw [e38]; exact wu_n (by omega))
  have p77 : PlaneAt f38 77 78 := p77.kept (by rw [e38]; exact wu_n (by decide)) (fun i h1 h2 => by rw [e38]; exact wu_n (by omega))
  have h154 : f38 154 = .inl (0, 900, .inl (fun _ => 0)) := by rw [e38]; exact (wu_n (by decide)).trans h154
  have h153 : f38 153 = .inr (2, [.ref 154, .int 0]) := by rw [e38]; exact (wu_n (by decide)).trans h153
  have h156 : f38 156 = .inl (1, 9, .inr (.inl (fun _ => 0))) := by rw [e38]; exact (wu_n (by decide)).trans h156
  have h157 : f38 157 = .inl (1, 9, .inr (.inl (fun _ => 0))) := by rw [e38]; exact (wu_n (by decide)).trans h157
  have p158 : QuadAt f38 158 159 := p158.kept (by rw [e38]; exact wu_n (by decide)) (fun i h1 h2 => by rw [e38]; exact wu_n (by omega))
  have h155 : f38 155 = .inr (3, [.ref 156, .ref 157, .ref 158]) := by rw [e38]; exact (wu_n (by decide)).trans h155
  have h165 : f38 165 = .inl (0, 8, .inl (fun _ => 0)) := by rw [e38]; exact (wu_n (by decide)).trans h165
  have h166 : f38 166 = .inl (0, 8, .inl (fun _ => 0)) := by rw [e38]; exact (wu_n (by decide)).trans h166
  have h167 : f38 167 = .inl (1, 3, .inr (.inl (fun _ => 0))) := by rw [e38]; exact (wu_n (by decide)).trans h167
  have h168 : f38 168 = .inl (1, 9, .inr (.inl (fun _ => 0))) := by rw [e38]; exact (wu_n (by decide)).trans h168
  have h164 : f38 164 = .inr (4, [.ref 153, .ref 155, .ref 165, .ref 166, .ref 167, .ref 168, .ref 77, .int 0, .int 0, .int 0, .int 0, .int 0, .int 0, .int (-1)]) := by rw [e38]; exact (wu_n (by decide)).trans h164
  have h170 : f38 170 = .inl (0, 16, .inl (fun _ => 0)) := by rw [e38]; exact (wu_n (by decide)).trans h170
  have h171 : f38 171 = .inl (0, 16, .inl (fun _ => 0)) := by rw [e38]; exact (wu_n (by decide)).trans h171
  have h172 : f38 172 = .inl (3, 16, refs (rows_of 172 16)) := by rw [e38]; exact (wu_n (by decide)).trans h172
  have h173 : ∀ i, i < 16 → f38 (173 + i) = .inl (1, 24, .inr (.inl (fun _ => 0))) := fun i hi => by rw [e38]; exact (wu_n (by omega)).trans (h173 i hi)
  have h169 : f38 169 = .inr (5, [.ref 170, .ref 171, .ref 172, .int 0, .int 0]) := by rw [e38]; exact (wu_n (by decide)).trans h169
  have h190 : f38 190 = .inl (3, 256, refs (rows_of 190 256)) := by rw [e38]; exact (wu_n (by decide)).trans h190
  have h191 : ∀ i, i < 256 → f38 (191 + i) = .inl (1, 9, .inr (.inl (fun _ => 0))) := fun i hi => by rw [e38]; exact (wu_n (by omega)).trans (h191 i hi)
  have h189 : f38 189 = .inr (6, [.ref 190, .int 0, .int 0]) := by rw [e38]; exact (wu_n (by decide)).trans h189
  have h448 : f38 448 = .inl (2, 16, .inl (fun _ => 0)) := by rw [e38]; exact (wu_n (by decide)).trans h448
  have h447 : f38 447 = .inr (7, [.ref 448, .int 0, .int 0, .int 0]) := by rw [e38]; exact (wu_n (by decide)).trans h447
  have h449 : f38 449 = .inl (1, 9, .inr (.inl (fun _ => 0))) := by rw [e38]; exact (wu_n (by decide)).trans h449
  have h450 : f38 450 = .inl (1, 9, .inr (.inl (fun _ => 0))) := by rw [e38]; exact (wu_n (by decide)).trans h450
  have h451 : f38 451 = .inl (1, 9, .inr (.inl (fun _ => 0))) := by rw [e38]; exact (wu_n (by decide)).trans h451
  have h452 : f38 452 = .inl (1, 3, .inr (.inl (fun _ => 0))) := by rw [e38]; exact (wu_n (by decide)).trans h452
  have h453 : f38 453 = .inl (1, 3, .inr (.inl (fun _ => 0))) := by rw [e38]; exact (wu_n (by decide)).trans h453
  have h454 : f38 454 = .inl (1, 3, .inr (.inl (fun _ => 0))) := by rw [e38]; exact (wu_n (by decide)).trans h454
  have h455 : f38 455 = .inl (1, 3, .inr (.inl (fun _ => 0))) := by rw [e38]; exact (wu_n (by decide)).trans h455
  have h0 : f38 0 = .inr (8, [.ref 1, .ref 77, .ref 153, .ref 164, .ref 169, .ref 155, .ref 189, .ref 447, .ref 449, .ref 450, .ref 451, .ref 452, .ref 453, .ref 454, .ref 455, .null, .null, .null]) := by rw [e38]; exact wu_s _ _ _
  have o38 : ∀ i, (i < 0 ∨ 1 ≤ i) → f38 i = f37 i := fun i h1 => by rw [e38]; exact wu_n (by omega)
  show PW _ _ _ _ _ _ (156, [(0, .ref 0)], [], (456, wu f37 0 (.inr (8, [.ref 1, .ref 77, .ref 153, .ref 164, .ref 169, .ref 155, .ref 189, .ref 447, .ref 449, .ref 450, .ref 451, .ref 452, .ref 453, .ref 454, .ref 455, .null, .null, .null]))))
  rw [← e38]
  refine P_aload_n d_CM_init_156 rfl ?_
  refine P_iconst (v := 3) d_CM_init_157 (by decide) ?_
  refine P_newarr (t := 1) (N := 3) (a0 := (3, .inr (.inl (fun _ => 0)))) d_CM_init_158 rfl (by decide) ac_long ⟨by decide, by decide⟩ (le_b rfl) ⟨rfl, fun _ _ => rfl⟩ (le_b rfl) (le_b rfl) (le_b rfl) ?_
  obtain ⟨f39, e39⟩ : ∃ f39 : Nat → pE, f39 = wu f38 456 (.inl (1, 3, .inr (.inl (fun _ => 0)))) := ⟨_, rfl⟩
  have p1 : PlaneAt f39 1 2 := p1.kept (by rw [e39]; exact wu_n (by decide)) (fun i h1 h2 => by rw [e39]; exact wu_n (by omega))
  have p77 : PlaneAt f39 77 78 := p77.kept (by rw [e39]; exact wu_n (by decide)) (fun i h1 h2 => by rw [e39]; exact wu_n (by omega))
  have h154 : f39 154 = .inl (0, 900, .inl (fun _ => 0)) := by rw [e39]; exact (wu_n (by decide)).trans h154
  have h153 : f39 153 = .inr (2, [.ref 154, .int 0]) := by rw [e39]; exact (wu_n (by decide)).trans h153
  have h156 : f39 156 = .inl (1, 9, .inr (.inl (fun _ => 0))) := by rw [e39]; exact (wu_n (by decide)).trans h156
  have h157 : f39 157 = .inl (1, 9, .inr (.inl (fun _ => 0))) := by rw [e39]; exact (wu_n (by decide)).trans h157
  have p158 : QuadAt f39 158 159 := p158.kept (by rw [e39]; exact wu_n (by decide)) (fun i h1 h2 => by rw [e39]; exact wu_n (by omega))
  have h155 : f39 155 = .inr (3, [.ref 156, .ref 157, .ref 158]) := by rw [e39]; exact (wu_n (by decide)).trans h155
  have h165 : f39 165 = .inl (0, 8, .inl (fun _ => 0)) := by rw [e39]; exact (wu_n (by decide)).trans h165
  have h166 : f39 166 = .inl (0, 8, .inl (fun _ => 0)) := by rw [e39]; exact (wu_n (by decide)).trans h166
  have h167 : f39 167 = .inl (1, 3, .inr (.inl (fun _ => 0))) := by rw [e39]; exact (wu_n (by decide)).trans h167
  have h168 : f39 168 = .inl (1, 9, .inr (.inl (fun _ => 0))) := by rw [e39]; exact (wu_n (by decide)).trans h168
  have h164 : f39 164 = .inr (4, [.ref 153, .ref 155, .ref 165, .ref 166, .ref 167, .ref 168, .ref 77, .int 0, .int 0, .int 0, .int 0, .int 0, .int 0, .int (-1)]) := by rw [e39]; exact (wu_n (by decide)).trans h164
  have h170 : f39 170 = .inl (0, 16, .inl (fun _ => 0)) := by rw [e39]; exact (wu_n (by decide)).trans h170
  have h171 : f39 171 = .inl (0, 16, .inl (fun _ => 0)) := by rw [e39]; exact (wu_n (by decide)).trans h171
  have h172 : f39 172 = .inl (3, 16, refs (rows_of 172 16)) := by rw [e39]; exact (wu_n (by decide)).trans h172
  have h173 : ∀ i, i < 16 → f39 (173 + i) = .inl (1, 24, .inr (.inl (fun _ => 0))) := fun i hi => by rw [e39]; exact (wu_n (by omega)).trans (h173 i hi)
  have h169 : f39 169 = .inr (5, [.ref 170, .ref 171, .ref 172, .int 0, .int 0]) := by rw [e39]; exact (wu_n (by decide)).trans h169
  have h190 : f39 190 = .inl (3, 256, refs (rows_of 190 256)) := by rw [e39]; exact (wu_n (by decide)).trans h190
  have h191 : ∀ i, i < 256 → f39 (191 + i) = .inl (1, 9, .inr (.inl (fun _ => 0))) := fun i hi => by rw [e39]; exact (wu_n (by omega)).trans (h191 i hi)
  have h189 : f39 189 = .inr (6, [.ref 190, .int 0, .int 0]) := by rw [e39]; exact (wu_n (by decide)).trans h189
  have h448 : f39 448 = .inl (2, 16, .inl (fun _ => 0)) := by rw [e39]; exact (wu_n (by decide)).trans h448
  have h447 : f39 447 = .inr (7, [.ref 448, .int 0, .int 0, .int 0]) := by rw [e39]; exact (wu_n (by decide)).trans h447
  have h449 : f39 449 = .inl (1, 9, .inr (.inl (fun _ => 0))) := by rw [e39]; exact (wu_n (by decide)).trans h449
  have h450 : f39 450 = .inl (1, 9, .inr (.inl (fun _ => 0))) := by rw [e39]; exact (wu_n (by decide)).trans h450
  have h451 : f39 451 = .inl (1, 9, .inr (.inl (fun _ => 0))) := by rw [e39]; exact (wu_n (by decide)).trans h451
  have h452 : f39 452 = .inl (1, 3, .inr (.inl (fun _ => 0))) := by rw [e39]; exact (wu_n (by decide)).trans h452
  have h453 : f39 453 = .inl (1, 3, .inr (.inl (fun _ => 0))) := by rw [e39]; exact (wu_n (by decide)).trans h453
  have h454 : f39 454 = .inl (1, 3, .inr (.inl (fun _ => 0))) := by rw [e39]; exact (wu_n (by decide)).trans h454
  have h455 : f39 455 = .inl (1, 3, .inr (.inl (fun _ => 0))) := by rw [e39]; exact (wu_n (by decide)).trans h455
  have h0 : f39 0 = .inr (8, [.ref 1, .ref 77, .ref 153, .ref 164, .ref 169, .ref 155, .ref 189, .ref 447, .ref 449, .ref 450, .ref 451, .ref 452, .ref 453, .ref 454, .ref 455, .null, .null, .null]) := by rw [e39]; exact (wu_n (by decide)).trans h0
  have h456 : f39 456 = .inl (1, 3, .inr (.inl (fun _ => 0))) := by rw [e39]; exact wu_s _ _ _
  have o39 : ∀ i, (i < 456 ∨ 457 ≤ i) → f39 i = f38 i := fun i h1 => by rw [e39]; exact wu_n (by omega)
  show PW _ _ _ _ _ _ (160, [(0, .ref 0)], [.ref 456, .ref 0], (457, wu f38 456 (.inl (1, 3, .inr (.inl (fun _ => 0))))))
  rw [← e39]
  refine P_putF (i := 15) d_CM_init_160 ok_CM (by decide) rfl L_CM_87 rfl rfl h0 (fun _ => rfl) (fun _ => rfl) ?_
  obtain ⟨f40, e40⟩ : ∃ f40 : Nat → pE, f40 = wu f39 0 (.inr (8, [.ref 1, .ref 77, .ref 153, .ref 164, .ref 169, .ref 155, .ref 189, .ref 447, .ref 449, .ref 450, .ref 451, .ref 452, .ref 453, .ref 454, .ref 455, .ref 456, .null, .null])) := ⟨_, rfl⟩
  have p1 : PlaneAt f40 1 2 := p1.kept (by rw [e40]; exact wu_n (by decide)) (fun i h1 h2 => by rw [e40]; exact wu_n (by omega))
  have p77 : PlaneAt f40 77 78 := p77.kept (by rw [e40]; exact wu_n (by decide)) (fun i h1 h2 => by rw [e40]; exact wu_n (by omega))
  have h154 : f40 154 = .inl (0, 900, .inl (fun _ => 0)) := by rw [e40]; exact (wu_n (by decide)).trans h154
  have h153 : f40 153 = .inr (2, [.ref 154, .int 0]) := by rw [e40]; exact (wu_n (by decide)).trans h153
  have h156 : f40 156 = .inl (1, 9, .inr (.inl (fun _ => 0))) := by rw [e40]; exact (wu_n (by decide)).trans h156
  have h157 : f40 157 = .inl (1, 9, .inr (.inl (fun _ => 0))) := by rw [e40]; exact (wu_n (by decide)).trans h157
  have p158 : QuadAt f40 158 159 := p158.kept (by rw [e40]; exact wu_n (by decide)) (fun i h1 h2 => by rw [e40]; exact wu_n (by omega))
  have h155 : f40 155 = .inr (3, [.ref 156, .ref 157, .ref 158]) := by rw [e40]; exact (wu_n (by decide)).trans h155
  have h165 : f40 165 = .inl (0, 8, .inl (fun _ => 0)) := by rw [e40]; exact (wu_n (by decide)).trans h165
  have h166 : f40 166 = .inl (0, 8, .inl (fun _ => 0)) := by rw [e40]; exact (wu_n (by decide)).trans h166
  have h167 : f40 167 = .inl (1, 3, .inr (.inl (fun _ => 0))) := by rw [e40]; exact (wu_n (by decide)).trans h167
  have h168 : f40 168 = .inl (1, 9, .inr (.inl (fun _ => 0))) := by rw [e40]; exact (wu_n (by decide)).trans h168
  have h164 : f40 164 = .inr (4, [.ref 153, .ref 155, .ref 165, .ref 166, .ref 167, .ref 168, .ref 77, .int 0, .int 0, .int 0, .int 0, .int 0, .int 0, .int (-1)]) := by rw [e40]; exact (wu_n (by decide)).trans h164
  have h170 : f40 170 = .inl (0, 16, .inl (fun _ => 0)) := by rw [e40]; exact (wu_n (by decide)).trans h170
  have h171 : f40 171 = .inl (0, 16, .inl (fun _ => 0)) := by rw [e40]; exact (wu_n (by decide)).trans h171
  have h172 : f40 172 = .inl (3, 16, refs (rows_of 172 16)) := by rw [e40]; exact (wu_n (by decide)).trans h172
  have h173 : ∀ i, i < 16 → f40 (173 + i) = .inl (1, 24, .inr (.inl (fun _ => 0))) := fun i hi => by rw [e40]; exact (wu_n (by omega)).trans (h173 i hi)
  have h169 : f40 169 = .inr (5, [.ref 170, .ref 171, .ref 172, .int 0, .int 0]) := by rw [e40]; exact (wu_n (by decide)).trans h169
  have h190 : f40 190 = .inl (3, 256, refs (rows_of 190 256)) := by rw [e40]; exact (wu_n (by decide)).trans h190
  have h191 : ∀ i, i < 256 → f40 (191 + i) = .inl (1, 9, .inr (.inl (fun _ => 0))) := fun i hi => by rw [e40]; exact (wu_n (by omega)).trans (h191 i hi)
  have h189 : f40 189 = .inr (6, [.ref 190, .int 0, .int 0]) := by rw [e40]; exact (wu_n (by decide)).trans h189
  have h448 : f40 448 = .inl (2, 16, .inl (fun _ => 0)) := by rw [e40]; exact (wu_n (by decide)).trans h448
  have h447 : f40 447 = .inr (7, [.ref 448, .int 0, .int 0, .int 0]) := by rw [e40]; exact (wu_n (by decide)).trans h447
  have h449 : f40 449 = .inl (1, 9, .inr (.inl (fun _ => 0))) := by rw [e40]; exact (wu_n (by decide)).trans h449
  have h450 : f40 450 = .inl (1, 9, .inr (.inl (fun _ => 0))) := by rw [e40]; exact (wu_n (by decide)).trans h450
  have h451 : f40 451 = .inl (1, 9, .inr (.inl (fun _ => 0))) := by rw [e40]; exact (wu_n (by decide)).trans h451
  have h452 : f40 452 = .inl (1, 3, .inr (.inl (fun _ => 0))) := by rw [e40]; exact (wu_n (by decide)).trans h452
  have h453 : f40 453 = .inl (1, 3, .inr (.inl (fun _ => 0))) := by rw [e40]; exact (wu_n (by decide)).trans h453
  have h454 : f40 454 = .inl (1, 3, .inr (.inl (fun _ => 0))) := by rw [e40]; exact (wu_n (by decide)).trans h454
  have h455 : f40 455 = .inl (1, 3, .inr (.inl (fun _ => 0))) := by rw [e40]; exact (wu_n (by decide)).trans h455
  have h456 : f40 456 = .inl (1, 3, .inr (.inl (fun _ => 0))) := by rw [e40]; exact (wu_n (by decide)).trans h456
  have h0 : f40 0 = .inr (8, [.ref 1, .ref 77, .ref 153, .ref 164, .ref 169, .ref 155, .ref 189, .ref 447, .ref 449, .ref 450, .ref 451, .ref 452, .ref 453, .ref 454, .ref 455, .ref 456, .null, .null]) := by rw [e40]; exact wu_s _ _ _
  have o40 : ∀ i, (i < 0 ∨ 1 ≤ i) → f40 i = f39 i := fun i h1 => by rw [e40]; exact wu_n (by omega)
  show PW _ _ _ _ _ _ (163, [(0, .ref 0)], [], (457, wu f39 0 (.inr (8, [.ref 1, .ref 77, .ref 153, .ref 164, .ref 169, .ref 155, .ref 189, .ref 447, .ref 449, .ref 450, .ref 451, .ref 452, .ref 453, .ref 454, .ref 455, .ref 456, .null, .null]))))
  rw [← e40]
  refine P_aload_n d_CM_init_163 rfl ?_
  refine P_bipush (v := 8) d_CM_init_164 (by decide) ?_
  refine P_iconst (v := 3) d_CM_init_166 (by decide) ?_
  refine P_mnew (N := 8) (K := 3) d_CM_init_167 L_CM_90 ac_long ⟨by decide, by decide⟩ ⟨by decide, by decide⟩ (le_b rfl) (le_b rfl) (le_b rfl) (le_b rfl) (le_b rfl) ?_
  obtain ⟨f41, e41⟩ : ∃ f41 : Nat → pE, f41 = wr (wu f40 457 (.inl (3, 8, refs (rows_of 457 8)))) 458 466 (.inl (1, 3, .inr (.inl (fun _ => 0)))) := ⟨_, rfl⟩
  have p1 : PlaneAt f41 1 2 := p1.kept (by rw [e41]; exact (wr_out (by decide)).trans (wu_n (by decide))) (fun i h1 h2 => by rw [e41]; exact (wr_out (by omega)).trans (wu_n (by omega)))
  have p77 : PlaneAt f41 77 78 := p77.kept (by rw [e41]; exact (wr_out (by decide)).trans (wu_n (by decide))) (fun i h1 h2 => by rw [e41]; exact (wr_out (by omega)).trans (wu_n (by omega)))
  have h154 : f41 154 = .inl (0, 900, .inl (fun _ => 0)) := by rw [e41]; exact ((wr_out (by decide)).trans (wu_n (by decide))).trans h154
  have h153 : f41 153 = .inr (2, [.ref 154, .int 0]) := by rw [e41]; exact ((wr_out (by decide)).trans (wu_n (by decide))).trans h153
  have h156 : f41 156 = .inl (1, 9, .inr (.inl (fun _ => 0))) := by rw [e41]; exact ((wr_out (by decide)).trans (wu_n (by decide))).trans h156
  have h157 : f41 157 = .inl (1, 9, .inr (.inl (fun _ => 0))) := by rw [e41]; exact ((wr_out (by decide)).trans (wu_n (by decide))).trans h157
  have p158 : QuadAt f41 158 159 := p158.kept (by rw [e41]; exact (wr_out (by decide)).trans (wu_n (by decide))) (fun i h1 h2 => by rw [e41]; exact (wr_out (by omega)).trans (wu_n (by omega)))
  have h155 : f41 155 = .inr (3, [.ref 156, .ref 157, .ref 158]) := by rw [e41]; exact ((wr_out (by decide)).trans (wu_n (by decide))).trans h155
  have h165 : f41 165 = .inl (0, 8, .inl (fun _ => 0)) := by rw [e41]; exact ((wr_out (by decide)).trans (wu_n (by decide))).trans h165
  have h166 : f41 166 = .inl (0, 8, .inl (fun _ => 0)) := by rw [e41]; exact ((wr_out (by decide)).trans (wu_n (by decide))).trans h166
  have h167 : f41 167 = .inl (1, 3, .inr (.inl (fun _ => 0))) := by rw [e41]; exact ((wr_out (by decide)).trans (wu_n (by decide))).trans h167
  have h168 : f41 168 = .inl (1, 9, .inr (.inl (fun _ => 0))) := by rw [e41]; exact ((wr_out (by decide)).trans (wu_n (by decide))).trans h168
  have h164 : f41 164 = .inr (4, [.ref 153, .ref 155, .ref 165, .ref 166, .ref 167, .ref 168, .ref 77, .int 0, .int 0, .int 0, .int 0, .int 0, .int 0, .int (-1)]) := by rw [e41]; exact ((wr_out (by decide)).trans (wu_n (by decide))).trans h164
  have h170 : f41 170 = .inl (0, 16, .inl (fun _ => 0)) := by rw [e41]; exact ((wr_out (by decide)).trans (wu_n (by decide))).trans h170
  have h171 : f41 171 = .inl (0, 16, .inl (fun _ => 0)) := by rw [e41]; exact ((wr_out (by decide)).trans (wu_n (by decide))).trans h171
  have h172 : f41 172 = .inl (3, 16, refs (rows_of 172 16)) := by rw [e41]; exact ((wr_out (by decide)).trans (wu_n (by decide))).trans h172
  have h173 : ∀ i, i < 16 → f41 (173 + i) = .inl (1, 24, .inr (.inl (fun _ => 0))) := fun i hi => by rw [e41]; exact ((wr_out (by omega)).trans (wu_n (by omega))).trans (h173 i hi)
  have h169 : f41 169 = .inr (5, [.ref 170, .ref 171, .ref 172, .int 0, .int 0]) := by rw [e41]; exact ((wr_out (by decide)).trans (wu_n (by decide))).trans h169
  have h190 : f41 190 = .inl (3, 256, refs (rows_of 190 256)) := by rw [e41]; exact ((wr_out (by decide)).trans (wu_n (by decide))).trans h190
  have h191 : ∀ i, i < 256 → f41 (191 + i) = .inl (1, 9, .inr (.inl (fun _ => 0))) := fun i hi => by rw [e41]; exact ((wr_out (by omega)).trans (wu_n (by omega))).trans (h191 i hi)
  have h189 : f41 189 = .inr (6, [.ref 190, .int 0, .int 0]) := by rw [e41]; exact ((wr_out (by decide)).trans (wu_n (by decide))).trans h189
  have h448 : f41 448 = .inl (2, 16, .inl (fun _ => 0)) := by rw [e41]; exact ((wr_out (by decide)).trans (wu_n (by decide))).trans h448
  have h447 : f41 447 = .inr (7, [.ref 448, .int 0, .int 0, .int 0]) := by rw [e41]; exact ((wr_out (by decide)).trans (wu_n (by decide))).trans h447
  have h449 : f41 449 = .inl (1, 9, .inr (.inl (fun _ => 0))) := by rw [e41]; exact ((wr_out (by decide)).trans (wu_n (by decide))).trans h449
  have h450 : f41 450 = .inl (1, 9, .inr (.inl (fun _ => 0))) := by rw [e41]; exact ((wr_out (by decide)).trans (wu_n (by decide))).trans h450
  have h451 : f41 451 = .inl (1, 9, .inr (.inl (fun _ => 0))) := by rw [e41]; exact ((wr_out (by decide)).trans (wu_n (by decide))).trans h451
  have h452 : f41 452 = .inl (1, 3, .inr (.inl (fun _ => 0))) := by rw [e41]; exact ((wr_out (by decide)).trans (wu_n (by decide))).trans h452
  have h453 : f41 453 = .inl (1, 3, .inr (.inl (fun _ => 0))) := by rw [e41]; exact ((wr_out (by decide)).trans (wu_n (by decide))).trans h453
  have h454 : f41 454 = .inl (1, 3, .inr (.inl (fun _ => 0))) := by rw [e41]; exact ((wr_out (by decide)).trans (wu_n (by decide))).trans h454
  have h455 : f41 455 = .inl (1, 3, .inr (.inl (fun _ => 0))) := by rw [e41]; exact ((wr_out (by decide)).trans (wu_n (by decide))).trans h455
  have h456 : f41 456 = .inl (1, 3, .inr (.inl (fun _ => 0))) := by rw [e41]; exact ((wr_out (by decide)).trans (wu_n (by decide))).trans h456
  have h0 : f41 0 = .inr (8, [.ref 1, .ref 77, .ref 153, .ref 164, .ref 169, .ref 155, .ref 189, .ref 447, .ref 449, .ref 450, .ref 451, .ref 452, .ref 453, .ref 454, .ref 455, .ref 456, .null, .null]) := by rw [e41]; exact ((wr_out (by decide)).trans (wu_n (by decide))).trans h0
  have h457 : f41 457 = .inl (3, 8, refs (rows_of 457 8)) := by rw [e41]; exact (wr_out (by decide)).trans (wu_s _ _ _)
  have h458 : ∀ i, i < 8 → f41 (458 + i) = .inl (1, 3, .inr (.inl (fun _ => 0))) := by rw [e41]; exact fun i hi => wr_in (by omega) (by omega)
  have o41 : ∀ i, (i < 457 ∨ 466 ≤ i) → f41 i = f40 i := fun i h1 => by rw [e41]; exact (wr_out (by omega)).trans (wu_n (by omega))
  show PW _ _ _ _ _ _ (171, [(0, .ref 0)], [.ref 457, .ref 0], (466, wr (wu f40 457 (.inl (3, 8, refs (rows_of 457 8)))) 458 466 (.inl (1, 3, .inr (.inl (fun _ => 0))))))
  rw [← e41]
  refine P_putF (i := 16) d_CM_init_171 ok_CM (by decide) rfl L_CM_92 rfl rfl h0 (fun _ => rfl) (fun _ => rfl) ?_
  obtain ⟨f42, e42⟩ : ∃ f42 : Nat → pE, f42 = wu f41 0 (.inr (8, [.ref 1, .ref 77, .ref 153, .ref 164, .ref 169, .ref 155, .ref 189, .ref 447, .ref 449, .ref 450, .ref 451, .ref 452, .ref 453, .ref 454, .ref 455, .ref 456, .ref 457, .null])) := ⟨_, rfl⟩
  have p1 : PlaneAt f42 1 2 := p1.kept (by rw [e42]; exact wu_n (by decide)) (fun i h1 h2 => by rw [e42]; exact wu_n (by omega))
  have p77 : PlaneAt f42 77 78 := p77.kept (by rw [e42]; exact wu_n (by decide)) (fun i h1 h2 => by rw [e42]; exact wu_n (by omega))
  have h154 : f42 154 = .inl (0, 900, .inl (fun _ => 0)) := by rw [e42]; exact (wu_n (by decide)).trans h154
  have h153 : f42 153 = .inr (2, [.ref 154, .int 0]) := by rw [e42]; exact (wu_n (by decide)).trans h153
  have h156 : f42 156 = .inl (1, 9, .inr (.inl (fun _ => 0))) := by rw [e42]; exact (wu_n (by decide)).trans h156
  have h157 : f42 157 = .inl (1, 9, .inr (.inl (fun _ => 0))) := by rw [e42]; exact (wu_n (by decide)).trans h157
  have p158 : QuadAt f42 158 159 := p158.kept (by rw [e42]; exact wu_n (by decide)) (fun i h1 h2 => by rw [e42]; exact wu_n (by omega))
  have h155 : f42 155 = .inr (3, [.ref 156, .ref 157, .ref 158]) := by rw [e42]; exact (wu_n (by decide)).trans h155
  have h165 : f42 165 = .inl (0, 8, .inl (fun _ => 0)) := by rw [e42]; exact (wu_n (by decide)).trans h165
  have h166 : f42 166 = .inl (0, 8, .inl (fun _ => 0)) := by rw [e42]; exact (wu_n (by decide)).trans h166
  have h167 : f42 167 = .inl (1, 3, .inr (.inl (fun _ => 0))) := by rw [e42]; exact (wu_n (by decide)).trans h167
  have h168 : f42 168 = .inl (1, 9, .inr (.inl (fun _ => 0))) := by rw [e42]; exact (wu_n (by decide)).trans h168
  have h164 : f42 164 = .inr (4, [.ref 153, .ref 155, .ref 165, .ref 166, .ref 167, .ref 168, .ref 77, .int 0, .int 0, .int 0, .int 0, .int 0, .int 0, .int (-1)]) := by rw [e42]; exact (wu_n (by decide)).trans h164
  have h170 : f42 170 = .inl (0, 16, .inl (fun _ => 0)) := by rw [e42]; exact (wu_n (by decide)).trans h170
  have h171 : f42 171 = .inl (0, 16, .inl (fun _ => 0)) := by rw [e42]; exact (wu_n (by decide)).trans h171
  have h172 : f42 172 = .inl (3, 16, refs (rows_of 172 16)) := by rw [e42]; exact (wu_n (by decide)).trans h172
  have h173 : ∀ i, i < 16 → f42 (173 + i) = .inl (1, 24, .inr (.inl (fun _ => 0))) := fun i hi => by rw [e42]; exact (wu_n (by omega)).trans (h173 i hi)
  have h169 : f42 169 = .inr (5, [.ref 170, .ref 171, .ref 172, .int 0, .int 0]) := by rw [e42]; exact (wu_n (by decide)).trans h169
  have h190 : f42 190 = .inl (3, 256, refs (rows_of 190 256)) := by rw [e42]; exact (wu_n (by decide)).trans h190
  have h191 : ∀ i, i < 256 → f42 (191 + i) = .inl (1, 9, .inr (.inl (fun _ => 0))) := fun i hi => by rw [e42]; exact (wu_n (by omega)).trans (h191 i hi)
  have h189 : f42 189 = .inr (6, [.ref 190, .int 0, .int 0]) := by rw [e42]; exact (wu_n (by decide)).trans h189
  have h448 : f42 448 = .inl (2, 16, .inl (fun _ => 0)) := by rw [e42]; exact (wu_n (by decide)).trans h448
  have h447 : f42 447 = .inr (7, [.ref 448, .int 0, .int 0, .int 0]) := by rw [e42]; exact (wu_n (by decide)).trans h447
  have h449 : f42 449 = .inl (1, 9, .inr (.inl (fun _ => 0))) := by rw [e42]; exact (wu_n (by decide)).trans h449
  have h450 : f42 450 = .inl (1, 9, .inr (.inl (fun _ => 0))) := by rw [e42]; exact (wu_n (by decide)).trans h450
  have h451 : f42 451 = .inl (1, 9, .inr (.inl (fun _ => 0))) := by rw [e42]; exact (wu_n (by decide)).trans h451
  have h452 : f42 452 = .inl (1, 3, .inr (.inl (fun _ => 0))) := by rw [e42]; exact (wu_n (by decide)).trans h452
  have h453 : f42 453 = .inl (1, 3, .inr (.inl (fun _ => 0))) := by rw [e42]; exact (wu_n (by decide)).trans h453
  have h454 : f42 454 = .inl (1, 3, .inr (.inl (fun _ => 0))) := by rw [e42]; exact (wu_n (by decide)).trans h454
  have h455 : f42 455 = .inl (1, 3, .inr (.inl (fun _ => 0))) := by rw [e42]; exact (wu_n (by decide)).trans h455
  have h456 : f42 456 = .inl (1, 3, .inr (.inl (fun _ => 0))) := by rw [e42]; exact (wu_n (by decide)).trans h456
  have h457 : f42 457 = .inl (3, 8, refs (rows_of 457 8)) := by rw [e42]; exact (wu_n (by decide)).trans h457
  have h458 : ∀ i, i < 8 → f42 (458 + i) = .inl (1, 3, .inr (.inl (fun _ => 0))) := fun i hi => by rw [e42]; exact (wu_n (by omega)).trans (h458 i hi)
  have h0 : f42 0 = .inr (8, [.ref 1, .ref 77, .ref 153, .ref 164, .ref 169, .ref 155, .ref 189, .ref 447, .ref 449, .ref 450, .ref 451, .ref 452, .ref 453, .ref 454, .ref 455, .ref 456, .ref 457, .null]) := by rw [e42]; exact wu_s _ _ _
  have o42 : ∀ i, (i < 0 ∨ 1 ≤ i) → f42 i = f41 i := fun i h1 => by rw [e42]; exact wu_n (by omega)
  show PW _ _ _ _ _ _ (174, [(0, .ref 0)], [], (466, wu f41 0 (.inr (8, [.ref 1, .ref 77, .ref 153, .ref 164, .ref 169, .ref 155, .ref 189, .ref 447, .ref 449, .ref 450, .ref 451, .ref 452, .ref 453, .ref 454, .ref 455, .ref 456, .ref 457, .null]))))
  rw [← e42]
  refine P_aload_n d_CM_init_174 rfl ?_
  refine P_iconst (v := 3) d_CM_init_175 (by decide) ?_
  refine P_newarr (t := 0) (N := 3) (a0 := (3, .inl (fun _ => 0))) d_CM_init_176 rfl (by decide) ac_int ⟨by decide, by decide⟩ (le_b rfl) ⟨rfl, fun _ _ => rfl⟩ (le_b rfl) (le_b rfl) (le_b rfl) ?_
  obtain ⟨f43, e43⟩ : ∃ f43 : Nat → pE, f43 = wu f42 466 (.inl (0, 3, .inl (fun _ => 0))) := ⟨_, rfl⟩
  have p1 : PlaneAt f43 1 2 := p1.kept (by rw [e43]; exact wu_n (by decide)) (fun i h1 h2 => by rw [e43]; exact wu_n (by omega))
  have p77 : PlaneAt f43 77 78 := p77.kept (by rw [e43]; exact wu_n (by decide)) (fun i h1 h2 => by rw [e43]; exact wu_n (by omega))
  have h154 : f43 154 = .inl (0, 900, .inl (fun _ => 0)) := by rw [e43]; exact (wu_n (by decide)).trans h154
  have h153 : f43 153 = .inr (2, [.ref 154, .int 0]) := by rw [e43]; exact (wu_n (by decide)).trans h153
  have h156 : f43 156 = .inl (1, 9, .inr (.inl (fun _ => 0))) := by rw [e43]; exact (wu_n (by decide)).trans h156
  have h157 : f43 157 = .inl (1, 9, .inr (.inl (fun _ => 0))) := by rw [e43]; exact (wu_n (by decide)).trans h157
  have p158 : QuadAt f43 158 159 := p158.kept (by rw [e43]; exact wu_n (by decide)) (fun i h1 h2 => by rw [e43]; exact wu_n (by omega))
  have h155 : f43 155 = .inr (3, [.ref 156, .ref 157, .ref 158]) := by rw [e43]; exact (wu_n (by decide)).trans h155
  have h165 : f43 165 = .inl (0, 8, .inl (fun _ => 0)) := by rw [e43]; exact (wu_n (by decide)).trans h165
  have h166 : f43 166 = .inl (0, 8, .inl (fun _ => 0)) := by rw [e43]; exact (wu_n (by decide)).trans h166
  have h167 : f43 167 = .inl (1, 3, .inr (.inl (fun _ => 0))) := by rw [e43]; exact (wu_n (by decide)).trans h167
  have h168 : f43 168 = .inl (1, 9, .inr (.inl (fun _ => 0))) := by rw [e43]; exact (wu_n (by decide)).trans h168
  have h164 : f43 164 = .inr (4, [.ref 153, .ref 155, .ref 165, .ref 166, .ref 167, .ref 168, .ref 77, .int 0, .int 0, .int 0, .int 0, .int 0, .int 0, .int (-1)]) := by rw [e43]; exact (wu_n (by decide)).trans h164
  have h170 : f43 170 = .inl (0, 16, .inl (fun _ => 0)) := by rw [e43]; exact (wu_n (by decide)).trans h170
  have h171 : f43 171 = .inl (0, 16, .inl (fun _ => 0)) := by rw [e43]; exact (wu_n (by decide)).trans h171
  have h172 : f43 172 = .inl (3, 16, refs (rows_of 172 16)) := by rw [e43]; exact (wu_n (by decide)).trans h172
  have h173 : ∀ i, i < 16 → f43 (173 + i) = .inl (1, 24, .inr (.inl (fun _ => 0))) := fun i hi => by rw [e43]; exact (wu_n (by omega)).trans (h173 i hi)
  have h169 : f43 169 = .inr (5, [.ref 170, .ref 171, .ref 172, .int 0, .int 0]) := by rw [e43]; exact (wu_n (by decide)).trans h169
  have h190 : f43 190 = .inl (3, 256, refs (rows_of 190 256)) := by rw [e43]; exact (wu_n (by decide)).trans h190
  have h191 : ∀ i, i < 256 → f43 (191 + i) = .inl (1, 9, .inr (.inl (fun _ => 0))) := fun i hi => by rw [e43]; exact (wu_n (by omega)).trans (h191 i hi)
  have h189 : f43 189 = .inr (6, [.ref 190, .int 0, .int 0]) := by rw [e43]; exact (wu_n (by decide)).trans h189
  have h448 : f43 448 = .inl (2, 16, .inl (fun _ => 0)) := by rw [e43]; exact (wu_n (by decide)).trans h448
  have h447 : f43 447 = .inr (7, [.ref 448, .int 0, .int 0, .int 0]) := by rw [e43]; exact (wu_n (by decide)).trans h447
  have h449 : f43 449 = .inl (1, 9, .inr (.inl (fun _ => 0))) := by rw [e43]; exact (wu_n (by decide)).trans h449
  have h450 : f43 450 = .inl (1, 9, .inr (.inl (fun _ => 0))) := by rw [e43]; exact (wu_n (by decide)).trans h450
  have h451 : f43 451 = .inl (1, 9, .inr (.inl (fun _ => 0))) := by rw [e43]; exact (wu_n (by decide)).trans h451
  have h452 : f43 452 = .inl (1, 3, .inr (.inl (fun _ => 0))) := by rw [e43]; exact (wu_n (by decide)).trans h452
  have h453 : f43 453 = .inl (1, 3, .inr (.inl (fun _ => 0))) := by rw [e43]; exact (wu_n (by decide)).trans h453
  have h454 : f43 454 = .inl (1, 3, .inr (.inl (fun _ => 0))) := by rw [e43]; exact (wu_n (by decide)).trans h454
  have h455 : f43 455 = .inl (1, 3, .inr (.inl (fun _ => 0))) := by rw [e43]; exact (wu_n (by decide)).trans h455
  have h456 : f43 456 = .inl (1, 3, .inr (.inl (fun _ => 0))) := by rw [e43]; exact (wu_n (by decide)).trans h456
  have h457 : f43 457 = .inl (3, 8, refs (rows_of 457 8)) := by rw [e43]; exact (wu_n (by decide)).trans h457
  have h458 : ∀ i, i < 8 → f43 (458 + i) = .inl (1, 3, .inr (.inl (fun _ => 0))) := fun i hi => by rw [e43]; exact (wu_n (by omega)).trans (h458 i hi)
  have h0 : f43 0 = .inr (8, [.ref 1, .ref 77, .ref 153, .ref 164, .ref 169, .ref 155, .ref 189, .ref 447, .ref 449, .ref 450, .ref 451, .ref 452, .ref 453, .ref 454, .ref 455, .ref 456, .ref 457, .null]) := by rw [e43]; exact (wu_n (by decide)).trans h0
  have h466 : f43 466 = .inl (0, 3, .inl (fun _ => 0)) := by rw [e43]; exact wu_s _ _ _
  have o43 : ∀ i, (i < 466 ∨ 467 ≤ i) → f43 i = f42 i := fun i h1 => by rw [e43]; exact wu_n (by omega)
  show PW _ _ _ _ _ _ (178, [(0, .ref 0)], [.ref 466, .ref 0], (467, wu f42 466 (.inl (0, 3, .inl (fun _ => 0)))))
  rw [← e43]
  refine P_putF (i := 17) d_CM_init_178 ok_CM (by decide) rfl L_CM_95 rfl rfl h0 (fun _ => rfl) (fun _ => rfl) ?_
  obtain ⟨f44, e44⟩ : ∃ f44 : Nat → pE, f44 = wu f43 0 (.inr (8, [.ref 1, .ref 77, .ref 153, .ref 164, .ref 169, .ref 155, .ref 189, .ref 447, .ref 449, .ref 450, .ref 451, .ref 452, .ref 453, .ref 454, .ref 455, .ref 456, .ref 457, .ref 466])) := ⟨_, rfl⟩
  have p1 : PlaneAt f44 1 2 := p1.kept (by rw [e44]; exact wu_n (by decide)) (fun i h1 h2 => by rw [e44]; exact wu_n (by omega))
  have p77 : PlaneAt f44 77 78 := p77.kept (by rw [e44]; exact wu_n (by decide)) (fun i h1 h2 => by rw [e44]; exact wu_n (by omega))
  have h154 : f44 154 = .inl (0, 900, .inl (fun _ => 0)) := by rw [e44]; exact (wu_n (by decide)).trans h154
  have h153 : f44 153 = .inr (2, [.ref 154, .int 0]) := by rw [e44]; exact (wu_n (by decide)).trans h153
  have h156 : f44 156 = .inl (1, 9, .inr (.inl (fun _ => 0))) := by rw [e44]; exact (wu_n (by decide)).trans h156
  have h157 : f44 157 = .inl (1, 9, .inr (.inl (fun _ => 0))) := by rw [e44]; exact (wu_n (by decide)).trans h157
  have p158 : QuadAt f44 158 159 := p158.kept (by rw [e44]; exact wu_n (by decide)) (fun i h1 h2 => by rw [e44]; exact wu_n (by omega))
  have h155 : f44 155 = .inr (3, [.ref 156, .ref 157, .ref 158]) := by rw [e44]; exact (wu_n (by decide)).trans h155
  have h165 : f44 165 = .inl (0, 8, .inl (fun _ => 0)) := by rw [e44]; exact (wu_n (by decide)).trans h165
  have h166 : f44 166 = .inl (0, 8, .inl (fun _ => 0)) := by rw [e44]; exact (wu_n (by decide)).trans h166
  have h167 : f44 167 = .inl (1, 3, .inr (.inl (fun _ => 0))) := by rw [e44]; exact (wu_n (by decide)).trans h167
  have h168 : f44 168 = .inl (1, 9, .inr (.inl (fun _ => 0))) := by rw [e44]; exact (wu_n (by decide)).trans h168
  have h164 : f44 164 = .inr (4, [.ref 153, .ref 155, .ref 165, .ref 166, .ref 167, .ref 168, .ref 77, .int 0, .int 0, .int 0, .int 0, .int 0, .int 0, .int (-1)]) := by rw [e44]; exact (wu_n (by decide)).trans h164
  have h170 : f44 170 = .inl (0, 16, .inl (fun _ => 0)) := by rw [e44]; exact (wu_n (by decide)).trans h170
  have h171 : f44 171 = .inl (0, 16, .inl (fun _ => 0)) := by rw [e44]; exact (wu_n (by decide)).trans h171
  have h172 : f44 172 = .inl (3, 16, refs (rows_of 172 16)) := by rw [e44]; exact (wu_n (by decide)).trans h172
  have h173 : ∀ i, i < 16 → f44 (173 + i) = .inl (1, 24, .inr (.inl (fun _ => 0))) := fun i hi => by rw [e44]; exact (wu_n (by omega)).trans (h173 i hi)
  have h169 : f44 169 = .inr (5, [.ref 170, .ref 171, .ref 172, .int 0, .int 0]) := by rw [e44]; exact (wu_n (by decide)).trans h169
  have h190 : f44 190 = .inl (3, 256, refs (rows_of 190 256)) := by rw [e44]; exact (wu_n (by decide)).trans h190
  have h191 : ∀ i, i < 256 → f44 (191 + i) = .inl (1, 9, .inr (.inl (fun _ => 0))) := fun i hi => by rw [e44]; exact (wu_n (by omega)).trans (h191 i hi)
  have h189 : f44 189 = .inr (6, [.ref 190, .int 0, .int 0]) := by rw [e44]; exact (wu_n (by decide)).trans h189
  have h448 : f44 448 = .inl (2, 16, .inl (fun _ => 0)) := by rw [e44]; exact (wu_n (by decide)).trans h448
  have h447 : f44 447 = .inr (7, [.ref 448, .int 0, .int 0, .int 0]) := by rw [e44]; exact (wu_n (by decide)).trans h447
  have h449 : f44 449 = .inl (1, 9, .inr (.inl (fun _ => 0))) := by rw [e44]; exact (wu_n (by decide)).trans h449
  have h450 : f44 450 = .inl (1, 9, .inr (.inl (fun _ => 0))) := by rw [e44]; exact (wu_n (by decide)).trans h450
  have h451 : f44 451 = .inl (1, 9, .inr (.inl (fun _ => 0))) := by rw [e44]; exact (wu_n (by decide)).trans h451
  have h452 : f44 452 = .inl (1, 3, .inr (.inl (fun _ => 0))) := by rw [e44]; exact (wu_n (by decide)).trans h452
  have h453 : f44 453 = .inl (1, 3, .inr (.inl (fun _ => 0))) := by rw [e44]; exact (wu_n (by decide)).trans h453
  have h454 : f44 454 = .inl (1, 3, .inr (.inl (fun _ => 0))) := by rw [e44]; exact (wu_n (by decide)).trans h454
  have h455 : f44 455 = .inl (1, 3, .inr (.inl (fun _ => 0))) := by rw [e44]; exact (wu_n (by decide)).trans h455
  have h456 : f44 456 = .inl (1, 3, .inr (.inl (fun _ => 0))) := by rw [e44]; exact (wu_n (by decide)).trans h456
  have h457 : f44 457 = .inl (3, 8, refs (rows_of 457 8)) := by rw [e44]; exact (wu_n (by decide)).trans h457
  have h458 : ∀ i, i < 8 → f44 (458 + i) = .inl (1, 3, .inr (.inl (fun _ => 0))) := fun i hi => by rw [e44]; exact (wu_n (by omega)).trans (h458 i hi)
  have h466 : f44 466 = .inl (0, 3, .inl (fun _ => 0)) := by rw [e44]; exact (wu_n (by decide)).trans h466
  have h0 : f44 0 = .inr (8, [.ref 1, .ref 77, .ref 153, .ref 164, .ref 169, .ref 155, .ref 189, .ref 447, .ref 449, .ref 450, .ref 451, .ref 452, .ref 453, .ref 454, .ref 455, .ref 456, .ref 457, .ref 466]) := by rw [e44]; exact wu_s _ _ _
  have o44 : ∀ i, (i < 0 ∨ 1 ≤ i) → f44 i = f43 i := fun i h1 => by rw [e44]; exact wu_n (by omega)
  show PW _ _ _ _ _ _ (181, [(0, .ref 0)], [], (467, wu f43 0 (.inr (8, [.ref 1, .ref 77, .ref 153, .ref 164, .ref 169, .ref 155, .ref 189, .ref 447, .ref 449, .ref 450, .ref 451, .ref 452, .ref 453, .ref 454, .ref 455, .ref 456, .ref 457, .ref 466]))))
  rw [← e44]
  exact P_vret d_CM_init_181 rfl (le_b rfl) (le_b rfl) ⟨rfl, f44, rfl, fun i h1 h2 => by rw [o44 i (by omega), o43 i (by omega), o42 i (by omega), o41 i (by omega), o40 i (by omega), o39 i (by omega), o38 i (by omega), o37 i (by omega), o36 i (by omega), o35 i (by omega), o34 i (by omega), o33 i (by omega), o32 i (by omega), o31 i (by omega), o30 i (by omega), o29 i (by omega), o28 i (by omega), o27 i (by omega), o26 i (by omega), o25 i (by omega), o24 i (by omega), o23 i (by omega) (by omega), o22 i (by omega), o21 i (by omega), o20 i (by omega) (by omega), o19 i (by omega), o18 i (by omega), o17 i (by omega) (by omega), o16 i (by omega), o15 i (by omega), o14 i (by omega) (by omega), o13 i (by omega), o12 i (by omega), o11 i (by omega) (by omega), o10 i (by omega), o9 i (by omega), o8 i (by omega) (by omega), o7 i (by omega), o6 i (by omega), o5 i (by omega) (by omega), o4 i (by omega), o3 i (by omega), o2 i (by omega) (by omega), o1 i (by omega)], p1, p77, h154, h153, h156, h157, p158, h155, h165, h166, h167, h168, h164, h170, h171, h172, h173, h169, h190, h191, h189, h448, h447, h449, h450, h451, h452, h453, h454, h455, h456, h457, h458, h466, h0⟩
set_option maxRecDepth 20000 in
theorem c_MD_init {G : pG} (f : Nat → pE) (h467 : f 467 = .inr (9, [.int 0, .null, .int 0, .null, .null, .int 0, .int 0, .null, .null, .null, .int 0, .int 0, .int 0, .null, .null, .int 0, .int 0, .int 0, .int 0, .int 0, .int 0, .int 0, .int 0, .int 0, .int 0, .null, .null, .null, .null, .null, .null, .null, .null, .int 0, .null, .int 0, .null, .int 0])) : PM G M_MD_init 1 18 6721 [.ref 467] (468, f) (fun r w' => r = none ∧ ∃ g : Nat → pE, w' = (486, g) ∧ (∀ i, i ≠ 467 → (i < 468 ∨ 486 ≤ i) → g i = f i) ∧ (g 468 = .inl (0, 900, .inl (fun _ => 0))) ∧ (g 469 = .inl (0, 64, .inl (fun _ => 0))) ∧ (g 470 = .inl (0, 64, .inl (fun _ => 0))) ∧ (g 471 = .inl (1, 170, .inr (.inl (fun _ => 0)))) ∧ (g 472 = .inl (1, 170, .inr (.inl (fun _ => 0)))) ∧ (g 473 = .inl (1, 2720, .inr (.inl (fun _ => 0)))) ∧ (g 474 = .inl (0, 8, .inl (fun _ => 0))) ∧ (g 475 = .inl (0, 8, .inl (fun _ => 0))) ∧ (g 476 = .inl (1, 9, .inr (.inl (fun _ => 0)))) ∧ (g 477 = .inl (1, 9, .inr (.inl (fun _ => 0)))) ∧ (g 478 = .inl (1, 9, .inr (.inl (fun _ => 0)))) ∧ (g 479 = .inl (1, 3, .inr (.inl (fun _ => 0)))) ∧ (g 480 = .inl (1, 3, .inr (.inl (fun _ => 0)))) ∧ (g 481 = .inl (0, 16, .inl (fun _ => 0))) ∧ (g 482 = .inl (1, 9, .inr (.inl (fun _ => 0)))) ∧ (g 483 = .inl (0, 3, .inl (fun _ => 0))) ∧ (g 484 = .inl (1, 2448, .inr (.inl (fun _ => 0)))) ∧ (g 485 = .inl (0, 108, .inl (fun _ => 0))) ∧ (g 467 = .inr (9, [.int 0, .ref 468, .int 0, .ref 469, .ref 470, .int 0, .int 0, .ref 471, .ref 472, .ref 473, .int 0, .int 0, .int 0, .ref 474, .ref 475, .int 0, .int 0, .int 0, .int 0, .int 0, .int 0, .int 0, .int 0, .int 0, .int (-1), .ref 476, .ref 477, .ref 478, .ref 479, .ref 480, .ref 481, .ref 482, .ref 483, .int 0, .ref 484, .int 0, .ref 485, .int 0]))) := by
  refine PM_of (by decide) (le_b rfl) ?_
  show PW _ _ _ _ _ _ (0, [(0, .ref 467)], [], (468, f))
  refine P_aload_n d_MD_init_0 rfl ?_
  refine P_objInit d_MD_init_1 L_MD_3 im_objInit cd_objInit ⟨le_b rfl, le_b rfl⟩ (le_b rfl) ?_
  refine P_aload_n d_MD_init_4 rfl ?_
  refine P_sipush (v := 900) d_MD_init_5 (by decide) ?_
  refine P_newarr (t := 0) (N := 900) (a0 := (900, .inl (fun _ => 0))) d_MD_init_8 rfl (by decide) ac_int ⟨by decide, by decide⟩ (le_b rfl) ⟨rfl, fun _ _ => rfl⟩ (le_b rfl) (le_b rfl) (le_b rfl) ?_
  obtain ⟨f1, e1⟩ : ∃ f1 : Nat → pE, f1 = wu f 468 (.inl (0, 900, .inl (fun _ => 0))) := ⟨_, rfl⟩
  have h467 : f1 467 = .inr (9, [.int 0, .null, .int 0, .null, .null, .int 0, .int 0, .null, .null, .null, .int 0, .int 0, .int 0, .null, .null, .int 0, .int 0, .int 0, .int 0, .int 0, .int 0, .int 0, .int 0, .int 0, .int 0, .null, .null, .null, .null, .null, .null, .null, .null, .int 0, .null, .int 0, .null, .int 0]) := by rw [e1]; exact (wu_n (by decide)).trans h467
  have h468 : f1 468 = .inl (0, 900, .inl (fun _ => 0)) := by rw [e1]; exact wu_s _ _ _
  have o1 : ∀ i, (i < 468 ∨ 469 ≤ i) → f1 i = f i := fun i h1 => by rw [e1]; exact wu_n (by omega)
  show PW _ _ _ _ _ _ (10, [(0, .ref 467)], [.ref 468, .ref 467], (469, wu f 468 (.inl (0, 900, .inl (fun _ => 0)))))
  rw [← e1]
  refine P_putF (i := 1) d_MD_init_10 ok_Model (by decide) rfl L_MD_9 rfl rfl h467 (fun _ => rfl) (fun _ => rfl) ?_
  obtain ⟨f2, e2⟩ : ∃ f2 : Nat → pE, f2 = wu f1 467 (.inr (9, [.int 0, .ref 468, .int 0, .null, .null, .int 0, .int 0, .null, .null, .null, .int 0, .int 0, .int 0, .null, .null, .int 0, .int 0, .int 0, .int 0, .int 0, .int 0, .int 0, .int 0, .int 0, .int 0, .null, .null, .null, .null, .null, .null, .null, .null, .int 0, .null, .int 0, .null, .int 0])) := ⟨_, rfl⟩
  have h468 : f2 468 = .inl (0, 900, .inl (fun _ => 0)) := by rw [e2]; exact (wu_n (by decide)).trans h468
  have h467 : f2 467 = .inr (9, [.int 0, .ref 468, .int 0, .null, .null, .int 0, .int 0, .null, .null, .null, .int 0, .int 0, .int 0, .null, .null, .int 0, .int 0, .int 0, .int 0, .int 0, .int 0, .int 0, .int 0, .int 0, .int 0, .null, .null, .null, .null, .null, .null, .null, .null, .int 0, .null, .int 0, .null, .int 0]) := by rw [e2]; exact wu_s _ _ _
  have o2 : ∀ i, (i < 467 ∨ 468 ≤ i) → f2 i = f1 i := fun i h1 => by rw [e2]; exact wu_n (by omega)
  show PW _ _ _ _ _ _ (13, [(0, .ref 467)], [], (469, wu f1 467 (.inr (9, [.int 0, .ref 468, .int 0, .null, .null, .int 0, .int 0, .null, .null, .null, .int 0, .int 0, .int 0, .null, .null, .int 0, .int 0, .int 0, .int 0, .int 0, .int 0, .int 0, .int 0, .int 0, .int 0, .null, .null, .null, .null, .null, .null, .null, .null, .int 0, .null, .int 0, .null, .int 0]))))
  rw [← e2]
  refine P_aload_n d_MD_init_13 rfl ?_
  refine P_bipush (v := 64) d_MD_init_14 (by decide) ?_
  refine P_newarr (t := 0) (N := 64) (a0 := (64, .inl (fun _ => 0))) d_MD_init_16 rfl (by decide) ac_int ⟨by decide, by decide⟩ (le_b rfl) ⟨rfl, fun _ _ => rfl⟩ (le_b rfl) (le_b rfl) (le_b rfl) ?_
  obtain ⟨f3, e3⟩ : ∃ f3 : Nat → pE, f3 = wu f2 469 (.inl (0, 64, .inl (fun _ => 0))) := ⟨_, rfl⟩
  have h468 : f3 468 = .inl (0, 900, .inl (fun _ => 0)) := by rw [e3]; exact (wu_n (by decide)).trans h468
  have h467 : f3 467 = .inr (9, [.int 0, .ref 468, .int 0, .null, .null, .int 0, .int 0, .null, .null, .null, .int 0, .int 0, .int 0, .null, .null, .int 0, .int 0, .int 0, .int 0, .int 0, .int 0, .int 0, .int 0, .int 0, .int 0, .null, .null, .null, .null, .null, .null, .null, .null, .int 0, .null, .int 0, .null, .int 0]) := by rw [e3]; exact (wu_n (by decide)).trans h467
  have h469 : f3 469 = .inl (0, 64, .inl (fun _ => 0)) := by rw [e3]; exact wu_s _ _ _
  have o3 : ∀ i, (i < 469 ∨ 470 ≤ i) → f3 i = f2 i := fun i h1 => by rw [e3]; exact wu_n (by omega)
  show PW _ _ _ _ _ _ (18, [(0, .ref 467)], [.ref 469, .ref 467], (470, wu f2 469 (.inl (0, 64, .inl (fun _ => 0)))))
  rw [← e3]
  refine P_putF (i := 3) d_MD_init_18 ok_Model (by decide) rfl L_MD_15 rfl rfl h467 (fun _ => rfl) (fun _ => rfl) ?_
  obtain ⟨f4, e4⟩ : ∃ f4 : Nat → pE, f4 = wu f3 467 (.inr (9, [.int 0, .ref 468, .int 0, .ref 469, .null, .int 0, .int 0, .null, .null, .null, .int 0, .int 0, .int 0, .null, .null, .int 0, .int 0, .int 0, .int 0, .int 0, .int 0, .int 0, .int 0, .int 0, .int 0, .null, .null, .null, .null, .null, .null, .null, .null, .int 0, .null, .int 0, .null, .int 0])) := ⟨_, rfl⟩
  have h468 : f4 468 = .inl (0, 900, .inl (fun _ => 0)) := by rw [e4]; exact (wu_n (by decide)).trans h468
  have h469 : f4 469 = .inl (0, 64, .inl (fun _ => 0)) := by rw [e4]; exact (wu_n (by decide)).trans h469
  have h467 : f4 467 = .inr (9, [.int 0, .ref 468, .int 0, .ref 469, .null, .int 0, .int 0, .null, .null, .null, .int 0, .int 0, .int 0, .null, .null, .int 0, .int 0, .int 0, .int 0, .int 0, .int 0, .int 0, .int 0, .int 0, .int 0, .null, .null, .null, .null, .null, .null, .null, .null, .int 0, .null, .int 0, .null, .int 0]) := by rw [e4]; exact wu_s _ _ _
  have o4 : ∀ i, (i < 467 ∨ 468 ≤ i) → f4 i = f3 i := fun i h1 => by rw [e4]; exact wu_n (by omega)
  show PW _ _ _ _ _ _ (21, [(0, .ref 467)], [], (470, wu f3 467 (.inr (9, [.int 0, .ref 468, .int 0, .ref 469, .null, .int 0, .int 0, .null, .null, .null, .int 0, .int 0, .int 0, .null, .null, .int 0, .int 0, .int 0, .int 0, .int 0, .int 0, .int 0, .int 0, .int 0, .int 0, .null, .null, .null, .null, .null, .null, .null, .null, .int 0, .null, .int 0, .null, .int 0]))))
  rw [← e4]
  refine P_aload_n d_MD_init_21 rfl ?_
  refine P_bipush (v := 64) d_MD_init_22 (by decide) ?_
  refine P_newarr (t := 0) (N := 64) (a0 := (64, .inl (fun _ => 0))) d_MD_init_24 rfl (by decide) ac_int ⟨by decide, by decide⟩ (le_b rfl) ⟨rfl, fun _ _ => rfl⟩ (le_b rfl) (le_b rfl) (le_b rfl) ?_
  obtain ⟨f5, e5⟩ : ∃ f5 : Nat → pE, f5 = wu f4 470 (.inl (0, 64, .inl (fun _ => 0))) := ⟨_, rfl⟩
  have h468 : f5 468 = .inl (0, 900, .inl (fun _ => 0)) := by rw [e5]; exact (wu_n (by decide)).trans h468
  have h469 : f5 469 = .inl (0, 64, .inl (fun _ => 0)) := by rw [e5]; exact (wu_n (by decide)).trans h469
  have h467 : f5 467 = .inr (9, [.int 0, .ref 468, .int 0, .ref 469, .null, .int 0, .int 0, .null, .null, .null, .int 0, .int 0, .int 0, .null, .null, .int 0, .int 0, .int 0, .int 0, .int 0, .int 0, .int 0, .int 0, .int 0, .int 0, .null, .null, .null, .null, .null, .null, .null, .null, .int 0, .null, .int 0, .null, .int 0]) := by rw [e5]; exact (wu_n (by decide)).trans h467
  have h470 : f5 470 = .inl (0, 64, .inl (fun _ => 0)) := by rw [e5]; exact wu_s _ _ _
  have o5 : ∀ i, (i < 470 ∨ 471 ≤ i) → f5 i = f4 i := fun i h1 => by rw [e5]; exact wu_n (by omega)
  show PW _ _ _ _ _ _ (26, [(0, .ref 467)], [.ref 470, .ref 467], (471, wu f4 470 (.inl (0, 64, .inl (fun _ => 0)))))
  rw [← e5]
  refine P_putF (i := 4) d_MD_init_26 ok_Model (by decide) rfl L_MD_18 rfl rfl h467 (fun _ => rfl) (fun _ => rfl) ?_
  obtain ⟨f6, e6⟩ : ∃ f6 : Nat → pE, f6 = wu f5 467 (.inr (9, [.int 0, .ref 468, .int 0, .ref 469, .ref 470, .int 0, .int 0, .null, .null, .null, .int 0, .int 0, .int 0, .null, .null, .int 0, .int 0, .int 0, .int 0, .int 0, .int 0, .int 0, .int 0, .int 0, .int 0, .null, .null, .null, .null, .null, .null, .null, .null, .int 0, .null, .int 0, .null, .int 0])) := ⟨_, rfl⟩
  have h468 : f6 468 = .inl (0, 900, .inl (fun _ => 0)) := by rw [e6]; exact (wu_n (by decide)).trans h468
  have h469 : f6 469 = .inl (0, 64, .inl (fun _ => 0)) := by rw [e6]; exact (wu_n (by decide)).trans h469
  have h470 : f6 470 = .inl (0, 64, .inl (fun _ => 0)) := by rw [e6]; exact (wu_n (by decide)).trans h470
  have h467 : f6 467 = .inr (9, [.int 0, .ref 468, .int 0, .ref 469, .ref 470, .int 0, .int 0, .null, .null, .null, .int 0, .int 0, .int 0, .null, .null, .int 0, .int 0, .int 0, .int 0, .int 0, .int 0, .int 0, .int 0, .int 0, .int 0, .null, .null, .null, .null, .null, .null, .null, .null, .int 0, .null, .int 0, .null, .int 0]) := by rw [e6]; exact wu_s _ _ _
  have o6 : ∀ i, (i < 467 ∨ 468 ≤ i) → f6 i = f5 i := fun i h1 => by rw [e6]; exact wu_n (by omega)
  show PW _ _ _ _ _ _ (29, [(0, .ref 467)], [], (471, wu f5 467 (.inr (9, [.int 0, .ref 468, .int 0, .ref 469, .ref 470, .int 0, .int 0, .null, .null, .null, .int 0, .int 0, .int 0, .null, .null, .int 0, .int 0, .int 0, .int 0, .int 0, .int 0, .int 0, .int 0, .int 0, .int 0, .null, .null, .null, .null, .null, .null, .null, .null, .int 0, .null, .int 0, .null, .int 0]))))
  rw [← e6]
  refine P_aload_n d_MD_init_29 rfl ?_
  refine P_sipush (v := 170) d_MD_init_30 (by decide) ?_
  refine P_newarr (t := 1) (N := 170) (a0 := (170, .inr (.inl (fun _ => 0)))) d_MD_init_33 rfl (by decide) ac_long ⟨by decide, by decide⟩ (le_b rfl) ⟨rfl, fun _ _ => rfl⟩ (le_b rfl) (le_b rfl) (le_b rfl) ?_
  obtain ⟨f7, e7⟩ : ∃ f7 : Nat → pE, f7 = wu f6 471 (.inl (1, 170, .inr (.inl (fun _ => 0)))) := ⟨_, rfl⟩
  have h468 : f7 468 = .inl (0, 900, .inl (fun _ => 0)) := by rw [e7]; exact (wu_n (by decide)).trans h468
  have h469 : f7 469 = .inl (0, 64, .inl (fun _ => 0)) := by rw [e7]; exact (wu_n (by decide)).trans h469
  have h470 : f7 470 = .inl (0, 64, .inl (fun _ => 0)) := by rw [e7]; exact (wu_n (by decide)).trans h470
  have h467 : f7 467 = .inr (9, [.int 0, .ref 468, .int 0, .ref 469, .ref 470, .int 0, .int 0, .null, .null, .null, .int 0, .int 0, .int 0, .null, .null, .int 0, .int 0, .int 0, .int 0, .int 0, .int 0, .int 0, .int 0, .int 0, .int 0, .null, .null, .null, .null, .null, .null, .null, .null, .int 0, .null, .int 0, .null, .int 0]) := by rw [e7]; exact (wu_n (by decide)).trans h467
  have h471 : f7 471 = .inl (1, 170, .inr (.inl (fun _ => 0))) := by rw [e7]; exact wu_s _ _ _
  have o7 : ∀ i, (i < 471 ∨ 472 ≤ i) → f7 i = f6 i := fun i h1 => by rw [e7]; exact wu_n (by omega)
  show PW _ _ _ _ _ _ (35, [(0, .ref 467)], [.ref 471, .ref 467], (472, wu f6 471 (.inl (1, 170, .inr (.inl (fun _ => 0))))))
  rw [← e7]
  refine P_putF (i := 7) d_MD_init_35 ok_Model (by decide) rfl L_MD_21 rfl rfl h467 (fun _ => rfl) (fun _ => rfl) ?_
  obtain ⟨f8, e8⟩ : ∃ f8 : Nat → pE, f8 = wu f7 467 (.inr (9, [.int 0, .ref 468, .int 0, .ref 469, .ref 470, .int 0, .int 0, .ref 471, .null, .null, .int 0, .int 0, .int 0, .null, .null, .int 0, .int 0, .int 0, .int 0, .int 0, .int 0, .int 0, .int 0, .int 0, .int 0, .null, .null, .null, .null, .null, .null, .null, .null, .int 0, .null, .int 0, .null, .int 0])) := ⟨_, rfl⟩
  have h468 : f8 468 = .inl (0, 900, .inl (fun _ => 0)) := by rw [e8]; exact (wu_n (by decide)).trans h468
  have h469 : f8 469 = .inl (0, 64, .inl (fun _ => 0)) := by rw [e8]; exact (wu_n (by decide)).trans h469
  have h470 : f8 470 = .inl (0, 64, .inl (fun _ => 0)) := by rw [e8]; exact (wu_n (by decide)).trans h470
  have h471 : f8 471 = .inl (1, 170, .inr (.inl (fun _ => 0))) := by rw [e8]; exact (wu_n (by decide)).trans h471
  have h467 : f8 467 = .inr (9, [.int 0, .ref 468, .int 0, .ref 469, .ref 470, .int 0, .int 0, .ref 471, .null, .null, .int 0, .int 0, .int 0, .null, .null, .int 0, .int 0, .int 0, .int 0, .int 0, .int 0, .int 0, .int 0, .int 0, .int 0, .null, .null, .null, .null, .null, .null, .null, .null, .int 0, .null, .int 0, .null, .int 0]) := by rw [e8]; exact wu_s _ _ _
  have o8 : ∀ i, (i < 467 ∨ 468 ≤ i) → f8 i = f7 i := fun i h1 => by rw [e8]; exact wu_n (by omega)
  show PW _ _ _ _ _ _ (38, [(0, .ref 467)], [], (472, wu f7 467 (.inr (9, [.int 0, .ref 468, .int 0, .ref 469, .ref 470, .int 0, .int 0, .ref 471, .null, .null, .int 0, .int 0, .int 0, .null, .null, .int 0, .int 0, .int 0, .int 0, .int 0, .int 0, .int 0, .int 0, .int 0, .int 0, .null, .null, .null, .null, .null, .null, .null, .null, .int 0, .null, .int 0, .null, .int 0]))))
  rw [← e8]
  refine P_aload_n d_MD_init_38 rfl ?_
  refine P_sipush (v := 170) d_MD_init_39 (by decide) ?_
  refine P_newarr (t := 1) (N := 170) (a0 := (170, .inr (.inl (fun _ => 0)))) d_MD_init_42 rfl (by decide) ac_long ⟨by decide, by decide⟩ (le_b rfl) ⟨rfl, fun _ _ => rfl⟩ (le_b rfl) (le_b rfl) (le_b rfl) ?_
  obtain ⟨f9, e9⟩ : ∃ f9 : Nat → pE, f9 = wu f8 472 (.inl (1, 170, .inr (.inl (fun _ => 0)))) := ⟨_, rfl⟩
  have h468 : f9 468 = .inl (0, 900, .inl (fun _ => 0)) := by rw [e9]; exact (wu_n (by decide)).trans h468
  have h469 : f9 469 = .inl (0, 64, .inl (fun _ => 0)) := by rw [e9]; exact (wu_n (by decide)).trans h469
  have h470 : f9 470 = .inl (0, 64, .inl (fun _ => 0)) := by rw [e9]; exact (wu_n (by decide)).trans h470
  have h471 : f9 471 = .inl (1, 170, .inr (.inl (fun _ => 0))) := by rw [e9]; exact (wu_n (by decide)).trans h471
  have h467 : f9 467 = .inr (9, [.int 0, .ref 468, .int 0, .ref 469, .ref 470, .int 0, .int 0, .ref 471, .null, .null, .int 0, .int 0, .int 0, .null, .null, .int 0, .int 0, .int 0, .int 0, .int 0, .int 0, .int 0, .int 0, .int 0, .int 0, .null, .null, .null, .null, .null, .null, .null, .null, .int 0, .null, .int 0, .null, .int 0]) := by rw [e9]; exact (wu_n (by decide)).trans h467
  have h472 : f9 472 = .inl (1, 170, .inr (.inl (fun _ => 0))) := by rw [e9]; exact wu_s _ _ _
  have o9 : ∀ i, (i < 472 ∨ 473 ≤ i) → f9 i = f8 i := fun i h1 => by rw [e9]; exact wu_n (by omega)
  show PW _ _ _ _ _ _ (44, [(0, .ref 467)], [.ref 472, .ref 467], (473, wu f8 472 (.inl (1, 170, .inr (.inl (fun _ => 0))))))
  rw [← e9]
  refine P_putF (i := 8) d_MD_init_44 ok_Model (by decide) rfl L_MD_25 rfl rfl h467 (fun _ => rfl) (fun _ => rfl) ?_
  obtain ⟨f10, e10⟩ : ∃ f10 : Nat → pE, f10 = wu f9 467 (.inr (9, [.int 0, .ref 468, .int 0, .ref 469, .ref 470, .int 0, .int 0, .ref 471, .ref 472, .null, .int 0, .int 0, .int 0, .null, .null, .int 0, .int 0, .int 0, .int 0, .int 0, .int 0, .int 0, .int 0, .int 0, .int 0, .null, .null, .null, .null, .null, .null, .null, .null, .int 0, .null, .int 0, .null, .int 0])) := ⟨_, rfl⟩
  have h468 : f10 468 = .inl (0, 900, .inl (fun _ => 0)) := by rw [e10]; exact (wu_n (by decide)).trans h468
  have h469 : f10 469 = .inl (0, 64, .inl (fun _ => 0)) := by rw [e10]; exact (wu_n (by decide)).trans h469
  have h470 : f10 470 = .inl (0, 64, .inl (fun _ => 0)) := by rw [e10]; exact (wu_n (by decide)).trans h470
  have h471 : f10 471 = .inl (1, 170, .inr (.inl (fun _ => 0))) := by rw [e10]; exact (wu_n (by decide)).trans h471
  have h472 : f10 472 = .inl (1, 170, .inr (.inl (fun _ => 0))) := by rw [e10]; exact (wu_n (by decide)).trans h472
  have h467 : f10 467 = .inr (9, [.int 0, .ref 468, .int 0, .ref 469, .ref 470, .int 0, .int 0, .ref 471, .ref 472, .null, .int 0, .int 0, .int 0, .null, .null, .int 0, .int 0, .int 0, .int 0, .int 0, .int 0, .int 0, .int 0, .int 0, .int 0, .null, .null, .null, .null, .null, .null, .null, .null, .int 0, .null, .int 0, .null, .int 0]) := by rw [e10]; exact wu_s _ _ _
  have o10 : ∀ i, (i < 467 ∨ 468 ≤ i) → f10 i = f9 i := fun i h1 => by rw [e10]; exact wu_n (by omega)
  show PW _ _ _ _ _ _ (47, [(0, .ref 467)], [], (473, wu f9 467 (.inr (9, [.int 0, .ref 468, .int 0, .ref 469, .ref 470, .int 0, .int 0, .ref 471, .ref 472, .null, .int 0, .int 0, .int 0, .null, .null, .int 0, .int 0, .int 0, .int 0, .int 0, .int 0, .int 0, .int 0, .int 0, .int 0, .null, .null, .null, .null, .null, .null, .null, .null, .int 0, .null, .int 0, .null, .int 0]))))
  rw [← e10]
  refine P_aload_n d_MD_init_47 rfl ?_
  refine P_sipush (v := 2720) d_MD_init_48 (by decide) ?_
  refine P_newarr (t := 1) (N := 2720) (a0 := (2720, .inr (.inl (fun _ => 0)))) d_MD_init_51 rfl (by decide) ac_long ⟨by decide, by decide⟩ (le_b rfl) ⟨rfl, fun _ _ => rfl⟩ (le_b rfl) (le_b rfl) (le_b rfl) ?_
  obtain ⟨f11, e11⟩ : ∃ f11 : Nat → pE, f11 = wu f10 473 (.inl (1, 2720, .inr (.inl (fun _ => 0)))) := ⟨_, rfl⟩
  have h468 : f11 468 = .inl (0, 900, .inl (fun _ => 0)) := by rw [e11]; exact (wu_n (by decide)).trans h468
  have h469 : f11 469 = .inl (0, 64, .inl (fun _ => 0)) := by rw [e11]; exact (wu_n (by decide)).trans h469
  have h470 : f11 470 = .inl (0, 64, .inl (fun _ => 0)) := by rw [e11]; exact (wu_n (by decide)).trans h470
  have h471 : f11 471 = .inl (1, 170, .inr (.inl (fun _ => 0))) := by rw [e11]; exact (wu_n (by decide)).trans h471
  have h472 : f11 472 = .inl (1, 170, .inr (.inl (fun _ => 0))) := by rw [e11]; exact (wu_n (by decide)).trans h472
  have h467 : f11 467 = .inr (9, [.int 0, .ref 468, .int 0, .ref 469, .ref 470, .int 0, .int 0, .ref 471, .ref 472, .null, .int 0, .int 0, .int 0, .null, .null, .int 0, .int 0, .int 0, .int 0, .int 0, .int 0, .int 0, .int 0, .int 0, .int 0, .null, .null, .null, .null, .null, .null, .null, .null, .int 0, .null, .int 0, .null, .int 0]) := by rw [e11]; exact (wu_n (by decide)).trans h467
  have h473 : f11 473 = .inl (1, 2720, .inr (.inl (fun _ => 0))) := by rw [e11]; exact wu_s _ _ _
  have o11 : ∀ i, (i < 473 ∨ 474 ≤ i) → f11 i = f10 i := fun i h1 => by rw [e11]; exact wu_n (by omega)
  show PW _ _ _ _ _ _ (53, [(0, .ref 467)], [.ref 473, .ref 467], (474, wu f10 473 (.inl (1, 2720, .inr (.inl (fun _ => 0))))))
  rw [← e11]
  refine P_putF (i := 9) d_MD_init_53 ok_Model (by decide) rfl L_MD_28 rfl rfl h467 (fun _ => rfl) (fun _ => rfl) ?_
  obtain ⟨f12, e12⟩ : ∃ f12 : Nat → pE, f12 = wu f11 467 (.inr (9, [.int 0, .ref 468, .int 0, .ref 469, .ref 470, .int 0, .int 0, .ref 471, .ref 472, .ref 473, .int 0, .int 0, .int 0, .null, .null, .int 0, .int 0, .int 0, .int 0, .int 0, .int 0, .int 0, .int 0, .int 0, .int 0, .null, .null, .null, .null, .null, .null, .null, .null, .int 0, .null, .int 0, .null, .int 0])) := ⟨_, rfl⟩
  have h468 : f12 468 = .inl (0, 900, .inl (fun _ => 0)) := by rw [e12]; exact (wu_n (by decide)).trans h468
  have h469 : f12 469 = .inl (0, 64, .inl (fun _ => 0)) := by rw [e12]; exact (wu_n (by decide)).trans h469
  have h470 : f12 470 = .inl (0, 64, .inl (fun _ => 0)) := by rw [e12]; exact (wu_n (by decide)).trans h470
  have h471 : f12 471 = .inl (1, 170, .inr (.inl (fun _ => 0))) := by rw [e12]; exact (wu_n (by decide)).trans h471
  have h472 : f12 472 = .inl (1, 170, .inr (.inl (fun _ => 0))) := by rw [e12]; exact (wu_n (by decide)).trans h472
  have h473 : f12 473 = .inl (1, 2720, .inr (.inl (fun _ => 0))) := by rw [e12]; exact (wu_n (by decide)).trans h473
  have h467 : f12 467 = .inr (9, [.int 0, .ref 468, .int 0, .ref 469, .ref 470, .int 0, .int 0, .ref 471, .ref 472, .ref 473, .int 0, .int 0, .int 0, .null, .null, .int 0, .int 0, .int 0, .int 0, .int 0, .int 0, .int 0, .int 0, .int 0, .int 0, .null, .null, .null, .null, .null, .null, .null, .null, .int 0, .null, .int 0, .null, .int 0]) := by rw [e12]; exact wu_s _ _ _
  have o12 : ∀ i, (i < 467 ∨ 468 ≤ i) → f12 i = f11 i := fun i h1 => by rw [e12]; exact wu_n (by omega)
  show PW _ _ _ _ _ _ (56, [(0, .ref 467)], [], (474, wu f11 467 (.inr (9, [.int 0, .ref 468, .int 0, .ref 469, .ref 470, .int 0, .int 0, .ref 471, .ref 472, .ref 473, .int 0, .int 0, .int 0, .null, .null, .int 0, .int 0, .int 0, .int 0, .int 0, .int 0, .int 0, .int 0, .int 0, .int 0, .null, .null, .null, .null, .null, .null, .null, .null, .int 0, .null, .int 0, .null, .int 0]))))
  rw [← e12]
  refine P_aload_n d_MD_init_56 rfl ?_
  refine P_bipush (v := 8) d_MD_init_57 (by decide) ?_
  refine P_newarr (t := 0) (N := 8) (a0 := (8, .inl (fun _ => 0))) d_MD_init_59 rfl (by decide) ac_int ⟨by decide, by decide⟩ (le_b rfl) ⟨rfl, fun _ _ => rfl⟩ (le_b rfl) (le_b rfl) (le_b rfl) ?_
  obtain ⟨f13, e13⟩ : ∃ f13 : Nat → pE, f13 = wu f12 474 (.inl (0, 8, .inl (fun _ => 0))) := ⟨_, rfl⟩
  have h468 : f13 468 = .inl (0, 900, .inl (fun _ => 0)) := by rw [e13]; exact (wu_n (by decide)).trans h468
  have h469 : f13 469 = .inl (0, 64, .inl (fun _ => 0)) := by rw [e13]; exact (wu_n (by decide)).trans h469
  have h470 : f13 470 = .inl (0, 64, .inl (fun _ => 0)) := by rw [e13]; exact (wu_n (by decide)).trans h470
  have h471 : f13 471 = .inl (1, 170, .inr (.inl (fun _ => 0))) := by rw [e13]; exact (wu_n (by decide)).trans h471
  have h472 : f13 472 = .inl (1, 170, .inr (.inl (fun _ => 0))) := by rw [e13]; exact (wu_n (by decide)).trans h472
  have h473 : f13 473 = .inl (1, 2720, .inr (.inl (fun _ => 0))) := by rw [e13]; exact (wu_n (by decide)).trans h473
  have h467 : f13 467 = .inr (9, [.int 0, .ref 468, .int 0, .ref 469, .ref 470, .int 0, .int 0, .ref 471, .ref 472, .ref 473, .int 0, .int 0, .int 0, .null, .null, .int 0, .int 0, .int 0, .int 0, .int 0, .int 0, .int 0, .int 0, .int 0, .int 0, .null, .null, .null, .null, .null, .null, .null, .null, .int 0, .null, .int 0, .null, .int 0]) := by rw [e13]; exact (wu_n (by decide)).trans h467
  have h474 : f13 474 = .inl (0, 8, .inl (fun _ => 0)) := by rw [e13]; exact wu_s _ _ _
  have o13 : ∀ i, (i < 474 ∨ 475 ≤ i) → f13 i = f12 i := fun i h1 => by rw [e13]; exact wu_n (by omega)
  show PW _ _ _ _ _ _ (61, [(0, .ref 467)], [.ref 474, .ref 467], (475, wu f12 474 (.inl (0, 8, .inl (fun _ => 0)))))
  rw [← e13]
  refine P_putF (i := 13) d_MD_init_61 ok_Model (by decide) rfl L_MD_31 rfl rfl h467 (fun _ => rfl) (fun _ => rfl) ?_
  obtain ⟨f14, e14⟩ : ∃ f14 : Nat → pE, f14 = wu f13 467 (.inr (9, [.int 0, .ref 468, .int 0, .ref 469, .ref 470, .int 0, .int 0, .ref 471, .ref 472, .ref 473, .int 0, .int 0, .int 0, .ref 474, .null, .int 0, .int 0, .int 0, .int 0, .int 0, .int 0, .int 0, .int 0, .int 0, .int 0, .null, .null, .null, .null, .null, .null, .null, .null, .int 0, .null, .int 0, .null, .int 0])) := ⟨_, rfl⟩
  have h468 : f14 468 = .inl (0, 900, .inl (fun _ => 0)) := by rw [e14]; exact (wu_n (by decide)).trans h468
  have h469 : f14 469 = .inl (0, 64, .inl (fun _ => 0)) := by rw [e14]; exact (wu_n (by decide)).trans h469
  have h470 : f14 470 = .inl (0, 64, .inl (fun _ => 0)) := by rw [e14]; exact (wu_n (by decide)).trans h470
  have h471 : f14 471 = .inl (1, 170, .inr (.inl (fun _ => 0))) := by rw [e14]; exact (wu_n (by decide)).trans h471
  have h472 : f14 472 = .inl (1, 170, .inr (.inl (fun _ => 0))) := by rw [e14]; exact (wu_n (by decide)).trans h472
  have h473 : f14 473 = .inl (1, 2720, .inr (.inl (fun _ => 0))) := by rw [e14]; exact (wu_n (by decide)).trans h473
  have h474 : f14 474 = .inl (0, 8, .inl (fun _ => 0)) := by rw [e14]; exact (wu_n (by decide)).trans h474
  have h467 : f14 467 = .inr (9, [.int 0, .ref 468, .int 0, .ref 469, .ref 470, .int 0, .int 0, .ref 471, .ref 472, .ref 473, .int 0, .int 0, .int 0, .ref 474, .null, .int 0, .int 0, .int 0, .int 0, .int 0, .int 0, .int 0, .int 0, .int 0, .int 0, .null, .null, .null, .null, .null, .null, .null, .null, .int 0, .null, .int 0, .null, .int 0]) := by rw [e14]; exact wu_s _ _ _
  have o14 : ∀ i, (i < 467 ∨ 468 ≤ i) → f14 i = f13 i := fun i h1 => by rw [e14]; exact wu_n (by omega)
  show PW _ _ _ _ _ _ (64, [(0, .ref 467)], [], (475, wu f13 467 (.inr (9, [.int 0, .ref 468, .int 0, .ref 469, .ref 470, .int 0, .int 0, .ref 471, .ref 472, .ref 473, .int 0, .int 0, .int 0, .ref 474, .null, .int 0, .int 0, .int 0, .int 0, .int 0, .int 0, .int 0, .int 0, .int 0, .int 0, .null, .null, .null, .null, .null, .null, .null, .null, .int 0, .null, .int 0, .null, .int 0]))))
  rw [← e14]
  refine P_aload_n d_MD_init_64 rfl ?_
  refine P_bipush (v := 8) d_MD_init_65 (by decide) ?_
  refine P_newarr (t := 0) (N := 8) (a0 := (8, .inl (fun _ => 0))) d_MD_init_67 rfl (by decide) ac_int ⟨by decide, by decide⟩ (le_b rfl) ⟨rfl, fun _ _ => rfl⟩ (le_b rfl) (le_b rfl) (le_b rfl) ?_
  obtain ⟨f15, e15⟩ : ∃ f15 : Nat → pE, f15 = wu f14 475 (.inl (0, 8, .inl (fun _ => 0))) := ⟨_, rfl⟩
  have h468 : f15 468 = .inl (0, 900, .inl (fun _ => 0)) := by rw [e15]; exact (wu_n (by decide)).trans h468
  have h469 : f15 469 = .inl (0, 64, .inl (fun _ => 0)) := by rw [e15]; exact (wu_n (by decide)).trans h469
  have h470 : f15 470 = .inl (0, 64, .inl (fun _ => 0)) := by rw [e15]; exact (wu_n (by decide)).trans h470
  have h471 : f15 471 = .inl (1, 170, .inr (.inl (fun _ => 0))) := by rw [e15]; exact (wu_n (by decide)).trans h471
  have h472 : f15 472 = .inl (1, 170, .inr (.inl (fun _ => 0))) := by rw [e15]; exact (wu_n (by decide)).trans h472
  have h473 : f15 473 = .inl (1, 2720, .inr (.inl (fun _ => 0))) := by rw [e15]; exact (wu_n (by decide)).trans h473
  have h474 : f15 474 = .inl (0, 8, .inl (fun _ => 0)) := by rw [e15]; exact (wu_n (by decide)).trans h474
  have h467 : f15 467 = .inr (9, [.int 0, .ref 468, .int 0, .ref 469, .ref 470, .int 0, .int 0, .ref 471, .ref 472, .ref 473, .int 0, .int 0, .int 0, .ref 474, .null, .int 0, .int 0, .int 0, .int 0, .int 0, .int 0, .int 0, .int 0, .int 0, .int 0, .null, .null, .null, .null, .null, .null, .null, .null, .int 0, .null, .int 0, .null, .int 0]) := by rw [e15]; exact (wu_n (by decide)).trans h467
  have h475 : f15 475 = .inl (0, 8, .inl (fun _ => 0)) := by rw [e15]; exact wu_s _ _ _
  have o15 : ∀ i, (i < 475 ∨ 476 ≤ i) → f15 i = f14 i := fun i h1 => by rw [e15]; exact wu_n (by omega)
  show PW _ _ _ _ _ _ (69, [(0, .ref 467)], [.ref 475, .ref 467], (476, wu f14 475 (.inl (0, 8, .inl (fun _ => 0)))))
  rw [← e15]
  refine P_putF (i := 14) d_MD_init_69 ok_Model (by decide) rfl L_MD_34 rfl rfl h467 (fun _ => rfl) (fun _ => rfl) ?_
  obtain ⟨f16, e16⟩ : ∃ f16 : Nat → pE, f16 = wu f15 467 (.inr (9, [.int 0, .ref 468, .int 0, .ref 469, .ref 470, .int 0, .int 0, .ref 471, .ref 472, .ref 473, .int 0, .int 0, .int 0, .ref 474, .ref 475, .int 0, .int 0, .int 0, .int 0, .int 0, .int 0, .int 0, .int 0, .int 0, .int 0, .null, .null, .null, .null, .null, .null, .null, .null, .int 0, .null, .int 0, .null, .int 0])) := ⟨_, rfl⟩
  have h468 : f16 468 = .inl (0, 900, .inl (fun _ => 0)) := by rw [e16]; exact (wu_n (by decide)).trans h468
  have h469 : f16 469 = .inl (0, 64, .inl (fun _ => 0)) := by rw [e16]; exact (wu_n (by decide)).trans h469
  have h470 : f16 470 = .inl (0, 64, .inl (fun _ => 0)) := by rw [e16]; exact (wu_n (by decide)).trans h470
  have h471 : f16 471 = .inl (1, 170, .inr (.inl (fun _ => 0))) := by rw [e16]; exact (wu_n (by decide)).trans h471
  have h472 : f16 472 = .inl (1, 170, .inr (.inl (fun _ => 0))) := by rw [e16]; exact (wu_n (by decide)).trans h472
  have h473 : f16 473 = .inl (1, 2720, .inr (.inl (fun _ => 0))) := by rw [e16]; exact (wu_n (by decide)).trans h473
  have h474 : f16 474 = .inl (0, 8, .inl (fun _ => 0)) := by rw [e16]; exact (wu_n (by decide)).trans h474
  have h475 : f16 475 = .inl (0, 8, .inl (fun _ => 0)) := by rw [e16]; exact (wu_n (by decide)).trans h475
  have h467 : f16 467 = .inr (9, [.int 0, .ref 468, .int 0, .ref 469, .ref 470, .int 0, .int 0, .ref 471, .ref 472, .ref 473, .int 0, .int 0, .int 0, .ref 474, .ref 475, .int 0, .int 0, .int 0, .int 0, .int 0, .int 0, .int 0, .int 0, .int 0, .int 0, .null, .null, .null, .null, .null, .null, .null, .null, .int 0, .null, .int 0, .null, .int 0]) := by rw [e16]; exact wu_s _ _ _
  have o16 : ∀ i, (i < 467 ∨ 468 ≤ i) → f16 i = f15 i := fun i h1 => by rw [e16]; exact wu_n (by omega)
  show PW _ _ _ _ _ _ (72, [(0, .ref 467)], [], (476, wu f15 467 (.inr (9, [.int 0, .ref 468, .int 0, .ref 469, .ref 470, .int 0, .int 0, .ref 471, .ref 472, .ref 473, .int 0, .int 0, .int 0, .ref 474, .ref 475, .int 0, .int 0, .int 0, .int 0, .int 0, .int 0, .int 0, .int 0, .int 0, .int 0, .null, .null, .null, .null, .null, .null, .null, .null, .int 0, .null, .int 0, .null, .int 0]))))
  rw [← e16]
  refine P_aload_n d_MD_init_72 rfl ?_
  refine P_iconst (v := (-1)) d_MD_init_73 (by decide) ?_
  refine P_put (i := 24) d_MD_init_74 ok_Model (by decide) rfl L_MD_37 h467 (fun _ => rfl) (fun _ => rfl) ?_
  obtain ⟨f17, e17⟩ : ∃ f17 : Nat → pE, f17 = wu f16 467 (.inr (9, [.int 0, .ref 468, .int 0, .ref 469, .ref 470, .int 0, .int 0, .ref 471, .ref 472, .ref 473, .int 0, .int 0, .int 0, .ref 474, .ref 475, .int 0, .int 0, .int 0, .int 0, .int 0, .int 0, .int 0, .int 0, .int 0, .int (-1), .null, .null, .null, .null, .null, .null, .null, .null, .int 0, .null, .int 0, .null, .int 0])) := ⟨_, rfl⟩
  have h468 : f17 468 = .inl (0, 900, .inl (fun _ => 0)) := by rw [e17]; exact (wu_n (by decide)).trans h468
  have h469 : f17 469 = .inl (0, 64, .inl (fun _ => 0)) := by rw [e17]; exact (wu_n (by decide)).trans h469
  have h470 : f17 470 = .inl (0, 64, .inl (fun _ => 0)) := by rw [e17]; exact (wu_n (by decide)).trans h470
  have h471 : f17 471 = .inl (1, 170, .inr (.inl (fun _ => 0))) := by rw [e17]; exact (wu_n (by decide)).trans h471
  have h472 : f17 472 = .inl (1, 170, .inr (.inl (fun _ => 0))) := by rw [e17]; exact (wu_n (by decide)).trans h472
  have h473 : f17 473 = .inl (1, 2720, .inr (.inl (fun _ => 0))) := by rw [e17]; exact (wu_n (by decide)).trans h473
  have h474 : f17 474 = .inl (0, 8, .inl (fun _ => 0)) := by rw [e17]; exact (wu_n (by decide)).trans h474
  have h475 : f17 475 = .inl (0, 8, .inl (fun _ => 0)) := by rw [e17]; exact (wu_n (by decide)).trans h475
  have h467 : f17 467 = .inr (9, [.int 0, .ref 468, .int 0, .ref 469, .ref 470, .int 0, .int 0, .ref 471, .ref 472, .ref 473, .int 0, .int 0, .int 0, .ref 474, .ref 475, .int 0, .int 0, .int 0, .int 0, .int 0, .int 0, .int 0, .int 0, .int 0, .int (-1), .null, .null, .null, .null, .null, .null, .null, .null, .int 0, .null, .int 0, .null, .int 0]) := by rw [e17]; exact wu_s _ _ _
  have o17 : ∀ i, (i < 467 ∨ 468 ≤ i) → f17 i = f16 i := fun i h1 => by rw [e17]; exact wu_n (by omega)
  show PW _ _ _ _ _ _ (77, [(0, .ref 467)], [], (476, wu f16 467 (.inr (9, [.int 0, .ref 468, .int 0, .ref 469, .ref 470, .int 0, .int 0, .ref 471, .ref 472, .ref 473, .int 0, .int 0, .int 0, .ref 474, .ref 475, .int 0, .int 0, .int 0, .int 0, .int 0, .int 0, .int 0, .int 0, .int 0, .int (-1), .null, .null, .null, .null, .null, .null, .null, .null, .int 0, .null, .int 0, .null, .int 0]))))
  rw [← e17]
  refine P_aload_n d_MD_init_77 rfl ?_
  refine P_bipush (v := 9) d_MD_init_78 (by decide) ?_
  refine P_newarr (t := 1) (N := 9) (a0 := (9, .inr (.inl (fun _ => 0)))) d_MD_init_80 rfl (by decide) ac_long ⟨by decide, by decide⟩ (le_b rfl) ⟨rfl, fun _ _ => rfl⟩ (le_b rfl) (le_b rfl) (le_b rfl) ?_
  obtain ⟨f18, e18⟩ : ∃ f18 : Nat → pE, f18 = wu f17 476 (.inl (1, 9, .inr (.inl (fun _ => 0)))) := ⟨_, rfl⟩
  have h468 : f18 468 = .inl (0, 900, .inl (fun _ => 0)) := by rw [e18]; exact (wu_n (by decide)).trans h468
  have h469 : f18 469 = .inl (0, 64, .inl (fun _ => 0)) := by rw [e18]; exact (wu_n (by decide)).trans h469
  have h470 : f18 470 = .inl (0, 64, .inl (fun _ => 0)) := by rw [e18]; exact (wu_n (by decide)).trans h470
  have h471 : f18 471 = .inl (1, 170, .inr (.inl (fun _ => 0))) := by rw [e18]; exact (wu_n (by decide)).trans h471
  have h472 : f18 472 = .inl (1, 170, .inr (.inl (fun _ => 0))) := by rw [e18]; exact (wu_n (by decide)).trans h472
  have h473 : f18 473 = .inl (1, 2720, .inr (.inl (fun _ => 0))) := by rw [e18]; exact (wu_n (by decide)).trans h473
  have h474 : f18 474 = .inl (0, 8, .inl (fun _ => 0)) := by rw [e18]; exact (wu_n (by decide)).trans h474
  have h475 : f18 475 = .inl (0, 8, .inl (fun _ => 0)) := by rw [e18]; exact (wu_n (by decide)).trans h475
  have h467 : f18 467 = .inr (9, [.int 0, .ref 468, .int 0, .ref 469, .ref 470, .int 0, .int 0, .ref 471, .ref 472, .ref 473, .int 0, .int 0, .int 0, .ref 474, .ref 475, .int 0, .int 0, .int 0, .int 0, .int 0, .int 0, .int 0, .int 0, .int 0, .int (-1), .null, .null, .null, .null, .null, .null, .null, .null, .int 0, .null, .int 0, .null, .int 0]) := by rw [e18]; exact (wu_n (by decide)).trans h467
  have h476 : f18 476 = .inl (1, 9, .inr (.inl (fun _ => 0))) := by rw [e18]; exact wu_s _ _ _
  have o18 : ∀ i, (i < 476 ∨ 477 ≤ i) → f18 i = f17 i := fun i h1 => by rw [e18]; exact wu_n (by omega)
  show PW _ _ _ _ _ _ (82, [(0, .ref 467)], [.ref 476, .ref 467], (477, wu f17 476 (.inl (1, 9, .inr (.inl (fun _ => 0))))))
  rw [← e18]
  refine P_putF (i := 25) d_MD_init_82 ok_Model (by decide) rfl L_MD_41 rfl rfl h467 (fun _ => rfl) (fun _ => rfl) ?_
  obtain ⟨f19, e19⟩ : ∃ f19 : Nat → pE, f19 = wu f18 467 (.inr (9, [.int 0, .ref 468, .int 0, .ref 469, .ref 470, .int 0, .int 0, .ref 471, .ref 472, .ref 473, .int 0, .int 0, .int 0, .ref 474, .ref 475, .int 0, .int 0, .int 0, .int 0, .int 0, .int 0, .int 0, .int 0, .int 0, .int (-1), .ref 476, .null, .null, .null, .null, .null, .null, .null, .int 0, .null, .int 0, .null, .int 0])) := ⟨_, rfl⟩
  have h468 : f19 468 = .inl (0, 900, .inl (fun _ => 0)) := by rw [e19]; exact (wu_n (by decide)).trans h468
  have h469 : f19 469 = .inl (0, 64, .inl (fun _ => 0)) := by rw [e19]; exact (wu_n (by decide)).trans h469
  have h470 : f19 470 = .inl (0, 64, .inl (fun _ => 0)) := by rw [e19]; exact (wu_n (by decide)).trans h470
  have h471 : f19 471 = .inl (1, 170, .inr (.inl (fun _ => 0))) := by rw [e19]; exact (wu_n (by decide)).trans h471
  have h472 : f19 472 = .inl (1, 170, .inr (.inl (fun _ => 0))) := by rw [e19]; exact (wu_n (by decide)).trans h472
  have h473 : f19 473 = .inl (1, 2720, .inr (.inl (fun _ => 0))) := by rw [e19]; exact (wu_n (by decide)).trans h473
  have h474 : f19 474 = .inl (0, 8, .inl (fun _ => 0)) := by rw [e19]; exact (wu_n (by decide)).trans h474
  have h475 : f19 475 = .inl (0, 8, .inl (fun _ => 0)) := by rw [e19]; exact (wu_n (by decide)).trans h475
  have h476 : f19 476 = .inl (1, 9, .inr (.inl (fun _ => 0))) := by rw [e19]; exact (wu_n (by decide)).trans h476
  have h467 : f19 467 = .inr (9, [.int 0, .ref 468, .int 0, .ref 469, .ref 470, .int 0, .int 0, .ref 471, .ref 472, .ref 473, .int 0, .int 0, .int 0, .ref 474, .ref 475, .int 0, .int 0, .int 0, .int 0, .int 0, .int 0, .int 0, .int 0, .int 0, .int (-1), .ref 476, .null, .null, .null, .null, .null, .null, .null, .int 0, .null, .int 0, .null, .int 0]) := by rw [e19]; exact wu_s _ _ _
  have o19 : ∀ i, (i < 467 ∨ 468 ≤ i) → f19 i = f18 i := fun i h1 => by rw [e19]; exact wu_n (by omega)
  show PW _ _ _ _ _ _ (85, [(0, .ref 467)], [], (477, wu f18 467 (.inr (9, [.int 0, .ref 468, .int 0, .ref 469, .ref 470, .int 0, .int 0, .ref 471, .ref 472, .ref 473, .int 0, .int 0, .int 0, .ref 474, .ref 475, .int 0, .int 0, .int 0, .int 0, .int 0, .int 0, .int 0, .int 0, .int 0, .int (-1), .ref 476, .null, .null, .null, .null, .null, .null, .null, .int 0, .null, .int 0, .null, .int 0]))))
  rw [← e19]
  refine P_aload_n d_MD_init_85 rfl ?_
  refine P_bipush (v := 9) d_MD_init_86 (by decide) ?_
  refine P_newarr (t := 1) (N := 9) (a0 := (9, .inr (.inl (fun _ => 0)))) d_MD_init_88 rfl (by decide) ac_long ⟨by decide, by decide⟩ (le_b rfl) ⟨rfl, fun _ _ => rfl⟩ (le_b rfl) (le_b rfl) (le_b rfl) ?_
  obtain ⟨f20, e20⟩ : ∃ f20 : Nat → pE, f20 = wu f19 477 (.inl (1, 9, .inr (.inl (fun _ => 0)))) := ⟨_, rfl⟩
  have h468 : f20 468 = .inl (0, 900, .inl (fun _ => 0)) := by rw [e20]; exact (wu_n (by decide)).trans h468
  have h469 : f20 469 = .inl (0, 64, .inl (fun _ => 0)) := by rw [e20]; exact (wu_n (by decide)).trans h469
  have h470 : f20 470 = .inl (0, 64, .inl (fun _ => 0)) := by rw [e20]; exact (wu_n (by decide)).trans h470
  have h471 : f20 471 = .inl (1, 170, .inr (.inl (fun _ => 0))) := by rw [e20]; exact (wu_n (by decide)).trans h471
  have h472 : f20 472 = .inl (1, 170, .inr (.inl (fun _ => 0))) := by rw [e20]; exact (wu_n (by decide)).trans h472
  have h473 : f20 473 = .inl (1, 2720, .inr (.inl (fun _ => 0))) := by rw [e20]; exact (wu_n (by decide)).trans h473
  have h474 : f20 474 = .inl (0, 8, .inl (fun _ => 0)) := by rw [e20]; exact (wu_n (by decide)).trans h474
  have h475 : f20 475 = .inl (0, 8, .inl (fun _ => 0)) := by rw [e20]; exact (wu_n (by decide)).trans h475
  have h476 : f20 476 = .inl (1, 9, .inr (.inl (fun _ => 0))) := by rw [e20]; exact (wu_n (by decide)).trans h476
  have h467 : f20 467 = .inr (9, [.int 0, .ref 468, .int 0, .ref 469, .ref 470, .int 0, .int 0, .ref 471, .ref 472, .ref 473, .int 0, .int 0, .int 0, .ref 474, .ref 475, .int 0, .int 0, .int 0, .int 0, .int 0, .int 0, .int 0, .int 0, .int 0, .int (-1), .ref 476, .null, .null, .null, .null, .null, .null, .null, .int 0, .null, .int 0, .null, .int 0]) := by rw [e20]; exact (wu_n (by decide)).trans h467
  have h477 : f20 477 = .inl (1, 9, .inr (.inl (fun _ => 0))) := by rw [e20]; exact wu_s _ _ _
  have o20 : ∀ i, (i < 477 ∨ 478 ≤ i) → f20 i = f19 i := fun i h1 => by rw [e20]; exact wu_n (by omega)
  show PW _ _ _ _ _ _ (90, [(0, .ref 467)], [.ref 477, .ref 467], (478, wu f19 477 (.inl (1, 9, .inr (.inl (fun _ => 0))))))
  rw [← e20]
  refine P_putF (i := 26) d_MD_init_90 ok_Model (by decide) rfl L_MD_44 rfl rfl h467 (fun _ => rfl) (fun _ => rfl) ?_
  obtain ⟨f21, e21⟩ : ∃ f21 : Nat → pE, f21 = wu f20 467 (.inr (9, [.int 0, .ref 468, .int 0, .ref 469, .ref 470, .int 0, .int 0, .ref 471, .ref 472, .ref 473, .int 0, .int 0, .int 0, .ref 474, .ref 475, .int 0, .int 0, .int 0, .int 0, .int 0, .int 0, .int 0, .int 0, .int 0, .int (-1), .ref 476, .ref 477, .null, .null, .null, .null, .null, .null, .int 0, .null, .int 0, .null, .int 0])) := ⟨_, rfl⟩
  have h468 : f21 468 = .inl (0, 900, .inl (fun _ => 0)) := by rw [e21]; exact (wu_n (by decide)).trans h468
  have h469 : f21 469 = .inl (0, 64, .inl (fun _ => 0)) := by rw [e21]; exact (wu_n (by decide)).trans h469
  have h470 : f21 470 = .inl (0, 64, .inl (fun _ => 0)) := by rw [e21]; exact (wu_n (by decide)).trans h470
  have h471 : f21 471 = .inl (1, 170, .inr (.inl (fun _ => 0))) := by rw [e21]; exact (wu_n (by decide)).trans h471
  have h472 : f21 472 = .inl (1, 170, .inr (.inl (fun _ => 0))) := by rw [e21]; exact (wu_n (by decide)).trans h472
  have h473 : f21 473 = .inl (1, 2720, .inr (.inl (fun _ => 0))) := by rw [e21]; exact (wu_n (by decide)).trans h473
  have h474 : f21 474 = .inl (0, 8, .inl (fun _ => 0)) := by rw [e21]; exact (wu_n (by decide)).trans h474
  have h475 : f21 475 = .inl (0, 8, .inl (fun _ => 0)) := by rw [e21]; exact (wu_n (by decide)).trans h475
  have h476 : f21 476 = .inl (1, 9, .inr (.inl (fun _ => 0))) := by rw [e21]; exact (wu_n (by decide)).trans h476
  have h477 : f21 477 = .inl (1, 9, .inr (.inl (fun _ => 0))) := by rw [e21]; exact (wu_n (by decide)).trans h477
  have h467 : f21 467 = .inr (9, [.int 0, .ref 468, .int 0, .ref 469, .ref 470, .int 0, .int 0, .ref 471, .ref 472, .ref 473, .int 0, .int 0, .int 0, .ref 474, .ref 475, .int 0, .int 0, .int 0, .int 0, .int 0, .int 0, .int 0, .int 0, .int 0, .int (-1), .ref 476, .ref 477, .null, .null, .null, .null, .null, .null, .int 0, .null, .int 0, .null, .int 0]) := by rw [e21]; exact wu_s _ _ _
  have o21 : ∀ i, (i < 467 ∨ 468 ≤ i) → f21 i = f20 i := fun i h1 => by rw [e21]; exact wu_n (by omega)
  show PW _ _ _ _ _ _ (93, [(0, .ref 467)], [], (478, wu f20 467 (.inr (9, [.int 0, .ref 468, .int 0, .ref 469, .ref 470, .int 0, .int 0, .ref 471, .ref 472, .ref 473, .int 0, .int 0, .int 0, .ref 474, .ref 475, .int 0, .int 0, .int 0, .int 0, .int 0, .int 0, .int 0, .int 0, .int 0, .int (-1), .ref 476, .ref 477, .null, .null, .null, .null, .null, .null, .int 0, .null, .int 0, .null, .int 0]))))
  rw [← e21]
  refine P_aload_n d_MD_init_93 rfl ?_
  refine P_bipush (v := 9) d_MD_init_94 (by decide) ?_
  refine P_newarr (t := 1) (N := 9) (a0 := (9, .inr (.inl (fun _ => 0)))) d_MD_init_96 rfl (by decide) ac_long ⟨by decide, by decide⟩ (le_b rfl) ⟨rfl, fun _ _ => rfl⟩ (le_b rfl) (le_b rfl) (le_b rfl) ?_
  obtain ⟨f22, e22⟩ : ∃ f22 : Nat → pE, f22 = wu f21 478 (.inl (1, 9, .inr (.inl (fun _ => 0)))) := ⟨_, rfl⟩
  have h468 : f22 468 = .inl (0, 900, .inl (fun _ => 0)) := by rw [e22]; exact (wu_n (by decide)).trans h468
  have h469 : f22 469 = .inl (0, 64, .inl (fun _ => 0)) := by rw [e22]; exact (wu_n (by decide)).trans h469
  have h470 : f22 470 = .inl (0, 64, .inl (fun _ => 0)) := by rw [e22]; exact (wu_n (by decide)).trans h470
  have h471 : f22 471 = .inl (1, 170, .inr (.inl (fun _ => 0))) := by rw [e22]; exact (wu_n (by decide)).trans h471
  have h472 : f22 472 = .inl (1, 170, .inr (.inl (fun _ => 0))) := by rw [e22]; exact (wu_n (by decide)).trans h472
  have h473 : f22 473 = .inl (1, 2720, .inr (.inl (fun _ => 0))) := by rw [e22]; exact (wu_n (by decide)).trans h473
  have h474 : f22 474 = .inl (0, 8, .inl (fun _ => 0)) := by rw [e22]; exact (wu_n (by decide)).trans h474
  have h475 : f22 475 = .inl (0, 8, .inl (fun _ => 0)) := by rw [e22]; exact (wu_n (by decide)).trans h475
  have h476 : f22 476 = .inl (1, 9, .inr (.inl (fun _ => 0))) := by rw [e22]; exact (wu_n (by decide)).trans h476
  have h477 : f22 477 = .inl (1, 9, .inr (.inl (fun _ => 0))) := by rw [e22]; exact (wu_n (by decide)).trans h477
  have h467 : f22 467 = .inr (9, [.int 0, .ref 468, .int 0, .ref 469, .ref 470, .int 0, .int 0, .ref 471, .ref 472, .ref 473, .int 0, .int 0, .int 0, .ref 474, .ref 475, .int 0, .int 0, .int 0, .int 0, .int 0, .int 0, .int 0, .int 0, .int 0, .int (-1), .ref 476, .ref 477, .null, .null, .null, .null, .null, .null, .int 0, .null, .int 0, .null, .int 0]) := by rw [e22]; exact (wu_n (by decide)).trans h467
  have h478 : f22 478 = .inl (1, 9, .inr (.inl (fun _ => 0))) := by rw [e22]; exact wu_s _ _ _
  have o22 : ∀ i, (i < 478 ∨ 479 ≤ i) → f22 i = f21 i := fun i h1 => by rw [e22]; exact wu_n (by omega)
  show PW _ _ _ _ _ _ (98, [(0, .ref 467)], [.ref 478, .ref 467], (479, wu f21 478 (.inl (1, 9, .inr (.inl (fun _ => 0))))))
  rw [← e22]
  refine P_putF (i := 27) d_MD_init_98 ok_Model (by decide) rfl L_MD_47 rfl rfl h467 (fun _ => rfl) (fun _ => rfl) ?_
  obtain ⟨f23, e23⟩ : ∃ f23 : Nat → pE, f23 = wu f22 467 (.inr (9, [.int 0, .ref 468, .int 0, .ref 469, .ref 470, .int 0, .int 0, .ref 471, .ref 472, .ref 473, .int 0, .int 0, .int 0, .ref 474, .ref 475, .int 0, .int 0, .int 0, .int 0, .int 0, .int 0, .int 0, .int 0, .int 0, .int (-1), .ref 476, .ref 477, .ref 478, .null, .null, .null, .null, .null, .int 0, .null, .int 0, .null, .int 0])) := ⟨_, rfl⟩
  have h468 : f23 468 = .inl (0, 900, .inl (fun _ => 0)) := by rw [e23]; exact (wu_n (by decide)).trans h468
  have h469 : f23 469 = .inl (0, 64, .inl (fun _ => 0)) := by rw [e23]; exact (wu_n (by decide)).trans h469
  have h470 : f23 470 = .inl (0, 64, .inl (fun _ => 0)) := by rw [e23]; exact (wu_n (by decide)).trans h470
  have h471 : f23 471 = .inl (1, 170, .inr (.inl (fun _ => 0))) := by rw [e23]; exact (wu_n (by decide)).trans h471
  have h472 : f23 472 = .inl (1, 170, .inr (.inl (fun _ => 0))) := by rw [e23]; exact (wu_n (by decide)).trans h472
  have h473 : f23 473 = .inl (1, 2720, .inr (.inl (fun _ => 0))) := by rw [e23]; exact (wu_n (by decide)).trans h473
  have h474 : f23 474 = .inl (0, 8, .inl (fun _ => 0)) := by rw [e23]; exact (wu_n (by decide)).trans h474
  have h475 : f23 475 = .inl (0, 8, .inl (fun _ => 0)) := by rw [e23]; exact (wu_n (by decide)).trans h475
  have h476 : f23 476 = .inl (1, 9, .inr (.inl (fun _ => 0))) := by rw [e23]; exact (wu_n (by decide)).trans h476
  have h477 : f23 477 = .inl (1, 9, .inr (.inl (fun _ => 0))) := by rw [e23]; exact (wu_n (by decide)).trans h477
  have h478 : f23 478 = .inl (1, 9, .inr (.inl (fun _ => 0))) := by rw [e23]; exact (wu_n (by decide)).trans h478
  have h467 : f23 467 = .inr (9, [.int 0, .ref 468, .int 0, .ref 469, .ref 470, .int 0, .int 0, .ref 471, .ref 472, .ref 473, .int 0, .int 0, .int 0, .ref 474, .ref 475, .int 0, .int 0, .int 0, .int 0, .int 0, .int 0, .int 0, .int 0, .int 0, .int (-1), .ref 476, .ref 477, .ref 478, .null, .null, .null, .null, .null, .int 0, .null, .int 0, .null, .int 0]) := by rw [e23]; exact wu_s _ _ _
  have o23 : ∀ i, (i < 467 ∨ 468 ≤ i) → f23 i = f22 i := fun i h1 => by rw [e23]; exact wu_n (by omega)
  show PW _ _ _ _ _ _ (101, [(0, .ref 467)], [], (479, wu f22 467 (.inr (9, [.int 0, .ref 468, .int 0, .ref 469, .ref 470, .int 0, .int 0, .ref 471, .ref 472, .ref 473, .int 0, .int 0, .int 0, .ref 474, .ref 475, .int 0, .int 0, .int 0, .int 0, .int 0, .int 0, .int 0, .int 0, .int 0, .int (-1), .ref 476, .ref 477, .ref 478, .null, .null, .null, .null, .null, .int 0, .null, .int 0, .null, .int 0]))))
  rw [← e23]
  refine P_aload_n d_MD_init_101 rfl ?_
  refine P_iconst (v := 3) d_MD_init_102 (by decide) ?_
  refine P_newarr (t := 1) (N := 3) (a0 := (3, .inr (.inl (fun _ => 0)))) d_MD_init_103 rfl (by decide) ac_long ⟨by decide, by decide⟩ (le_b rfl) ⟨rfl, fun _ _ => rfl⟩ (le_b rfl) (le_b rfl) (le_b rfl) ?_
  obtain ⟨f24, e24⟩ : ∃ f24 : Nat → pE, f24 = wu f23 479 (.inl (1, 3, .inr (.inl (fun _ => 0)))) := ⟨_, rfl⟩
  have h468 : f24 468 = .inl (0, 900, .inl (fun _ => 0)) := by rw [e24]; exact (wu_n (by decide)).trans h468
  have h469 : f24 469 = .inl (0, 64, .inl (fun _ => 0)) := by rw [e24]; exact (wu_n (by decide)).trans h469
  have h470 : f24 470 = .inl (0, 64, .inl (fun _ => 0)) := by rw [e24]; exact (wu_n (by decide)).trans h470
  have h471 : f24 471 = .inl (1, 170, .inr (.inl (fun _ => 0))) := by rw [e24]; exact (wu_n (by decide)).trans h471
  have h472 : f24 472 = .inl (1, 170, .inr (.inl (fun _ => 0))) := by rw [e24]; exact (wu_n (by decide)).trans h472
  have h473 : f24 473 = .inl (1, 2720, .inr (.inl (fun _ => 0))) := by rw [e24]; exact (wu_n (by decide)).trans h473
  have h474 : f24 474 = .inl (0, 8, .inl (fun _ => 0)) := by rw [e24]; exact (wu_n (by decide)).trans h474
  have h475 : f24 475 = .inl (0, 8, .inl (fun _ => 0)) := by rw [e24]; exact (wu_n (by decide)).trans h475
  have h476 : f24 476 = .inl (1, 9, .inr (.inl (fun _ => 0))) := by rw [e24]; exact (wu_n (by decide)).trans h476
  have h477 : f24 477 = .inl (1, 9, .inr (.inl (fun _ => 0))) := by rw [e24]; exact (wu_n (by decide)).trans h477
  have h478 : f24 478 = .inl (1, 9, .inr (.inl (fun _ => 0))) := by rw [e24]; exact (wu_n (by decide)).trans h478
  have h467 : f24 467 = .inr (9, [.int 0, .ref 468, .int 0, .ref 469, .ref 470, .int 0, .int 0, .ref 471, .ref 472, .ref 473, .int 0, .int 0, .int 0, .ref 474, .ref 475, .int 0, .int 0, .int 0, .int 0, .int 0, .int 0, .int 0, .int 0, .int 0, .int (-1), .ref 476, .ref 477, .ref 478, .null, .null, .null, .null, .null, .int 0, .null, .int 0, .null, .int 0]) := by rw [e24]; exact (wu_n (by decide)).trans h467
  have h479 : f24 479 = .inl (1, 3, .inr (.inl (fun _ => 0))) := by rw [e24]; exact wu_s _ _ _
  have o24 : ∀ i, (i < 479 ∨ 480 ≤ i) → f24 i = f23 i := fun i h1 => by rw [e24]; exact wu_n (by omega)
  show PW _ _ _ _ _ _ (105, [(0, .ref 467)], [.ref 479, .ref 467], (480, wu f23 479 (.inl (1, 3, .inr (.inl (fun _ => 0))))))
  rw [← e24]
  refine P_putF (i := 28) d_MD_init_105 ok_Model (by decide) rfl L_MD_50 rfl rfl h467 (fun _ => rfl) (fun _ => rfl) ?_
  obtain ⟨f25, e25⟩ : ∃ f25 : Nat → pE, f25 = wu f24 467 (.inr (9, [.int 0, .ref 468, .int 0, .ref 469, .ref 470, .int 0, .int 0, .ref 471, .ref 472, .ref 473, .int 0, .int 0, .int 0, .ref 474, .ref 475, .int 0, .int 0, .int 0, .int 0, .int 0, .int 0, .int 0, .int 0, .int 0, .int (-1), .ref 476, .ref 477, .ref 478, .ref 479, .null, .null, .null, .null, .int 0, .null, .int 0, .null, .int 0])) := ⟨_, rfl⟩
  have h468 : f25 468 = .inl (0, 900, .inl (fun _ => 0)) := by rw [e25]; exact (wu_n (by decide)).trans h468
  have h469 : f25 469 = .inl (0, 64, .inl (fun _ => 0)) := by rw [e25]; exact (wu_n (by decide)).trans h469
  have h470 : f25 470 = .inl (0, 64, .inl (fun _ => 0)) := by rw [e25]; exact (wu_n (by decide)).trans h470
  have h471 : f25 471 = .inl (1, 170, .inr (.inl (fun _ => 0))) := by rw [e25]; exact (wu_n (by decide)).trans h471
  have h472 : f25 472 = .inl (1, 170, .inr (.inl (fun _ => 0))) := by rw [e25]; exact (wu_n (by decide)).trans h472
  have h473 : f25 473 = .inl (1, 2720, .inr (.inl (fun _ => 0))) := by rw [e25]; exact (wu_n (by decide)).trans h473
  have h474 : f25 474 = .inl (0, 8, .inl (fun _ => 0)) := by rw [e25]; exact (wu_n (by decide)).trans h474
  have h475 : f25 475 = .inl (0, 8, .inl (fun _ => 0)) := by rw [e25]; exact (wu_n (by decide)).trans h475
  have h476 : f25 476 = .inl (1, 9, .inr (.inl (fun _ => 0))) := by rw [e25]; exact (wu_n (by decide)).trans h476
  have h477 : f25 477 = .inl (1, 9, .inr (.inl (fun _ => 0))) := by rw [e25]; exact (wu_n (by decide)).trans h477
  have h478 : f25 478 = .inl (1, 9, .inr (.inl (fun _ => 0))) := by rw [e25]; exact (wu_n (by decide)).trans h478
  have h479 : f25 479 = .inl (1, 3, .inr (.inl (fun _ => 0))) := by rw [e25]; exact (wu_n (by decide)).trans h479
  have h467 : f25 467 = .inr (9, [.int 0, .ref 468, .int 0, .ref 469, .ref 470, .int 0, .int 0, .ref 471, .ref 472, .ref 473, .int 0, .int 0, .int 0, .ref 474, .ref 475, .int 0, .int 0, .int 0, .int 0, .int 0, .int 0, .int 0, .int 0, .int 0, .int (-1), .ref 476, .ref 477, .ref 478, .ref 479, .null, .null, .null, .null, .int 0, .null, .int 0, .null, .int 0]) := by rw [e25]; exact wu_s _ _ _
  have o25 : ∀ i, (i < 467 ∨ 468 ≤ i) → f25 i = f24 i := fun i h1 => by rw [e25]; exact wu_n (by omega)
  show PW _ _ _ _ _ _ (108, [(0, .ref 467)], [], (480, wu f24 467 (.inr (9, [.int 0, .ref 468, .int 0, .ref 469, .ref 470, .int 0, .int 0, .ref 471, .ref 472, .ref 473, .int 0, .int 0, .int 0, .ref 474, .ref 475, .int 0, .int 0, .int 0, .int 0, .int 0, .int 0, .int 0, .int 0, .int 0, .int (-1), .ref 476, .ref 477, .ref 478, .ref 479, .null, .null, .null, .null, .int 0, .null, .int 0, .null, .int 0]))))
  rw [← e25]
  refine P_aload_n d_MD_init_108 rfl ?_
  refine P_iconst (v := 3) d_MD_init_109 (by decide) ?_
  refine P_newarr (t := 1) (N := 3) (a0 := (3, .inr (.inl (fun _ => 0)))) d_MD_init_110 rfl (by decide) ac_long ⟨by decide, by decide⟩ (le_b rfl) ⟨rfl, fun _ _ => rfl⟩ (le_b rfl) (le_b rfl) (le_b rfl) ?_
  obtain ⟨f26, e26⟩ : ∃ f26 : Nat → pE, f26 = wu f25 480 (.inl (1, 3, .inr (.inl (fun _ => 0)))) := ⟨_, rfl⟩
  have h468 : f26 468 = .inl (0, 900, .inl (fun _ => 0)) := by rw [e26]; exact (wu_n (by decide)).trans h468
  have h469 : f26 469 = .inl (0, 64, .inl (fun _ => 0)) := by rw [e26]; exact (wu_n (by decide)).trans h469
  have h470 : f26 470 = .inl (0, 64, .inl (fun _ => 0)) := by rw [e26]; exact (wu_n (by decide)).trans h470
  have h471 : f26 471 = .inl (1, 170, .inr (.inl (fun _ => 0))) := by rw [e26]; exact (wu_n (by decide)).trans h471
  have h472 : f26 472 = .inl (1, 170, .inr (.inl (fun _ => 0))) := by rw [e26]; exact (wu_n (by decide)).trans h472
  have h473 : f26 473 = .inl (1, 2720, .inr (.inl (fun _ => 0))) := by rw [e26]; exact (wu_n (by decide)).trans h473
  have h474 : f26 474 = .inl (0, 8, .inl (fun _ => 0)) := by rw [e26]; exact (wu_n (by decide)).trans h474
  have h475 : f26 475 = .inl (0, 8, .inl (fun _ => 0)) := by rw [e26]; exact (wu_n (by decide)).trans h475
  have h476 : f26 476 = .inl (1, 9, .inr (.inl (fun _ => 0))) := by rw [e26]; exact (wu_n (by decide)).trans h476
  have h477 : f26 477 = .inl (1, 9, .inr (.inl (fun _ => 0))) := by rw [e26]; exact (wu_n (by decide)).trans h477
  have h478 : f26 478 = .inl (1, 9, .inr (.inl (fun _ => 0))) := by rw [e26]; exact (wu_n (by decide)).trans h478
  have h479 : f26 479 = .inl (1, 3, .inr (.inl (fun _ => 0))) := by rw [e26]; exact (wu_n (by decide)).trans h479
  have h467 : f26 467 = .inr (9, [.int 0, .ref 468, .int 0, .ref 469, .ref 470, .int 0, .int 0, .ref 471, .ref 472, .ref 473, .int 0, .int 0, .int 0, .ref 474, .ref 475, .int 0, .int 0, .int 0, .int 0, .int 0, .int 0, .int 0, .int 0, .int 0, .int (-1), .ref 476, .ref 477, .ref 478, .ref 479, .null, .null, .null, .null, .int 0, .null, .int 0, .null, .int 0]) := by rw [e26]; exact (wu_n (by decide)).trans h467
  have h480 : f26 480 = .inl (1, 3, .inr (.inl (fun _ => 0))) := by rw [e26]; exact wu_s _ _ _
  have o26 : ∀ i, (i < 480 ∨ 481 ≤ i) → f26 i = f25 i := fun i h1 => by rw [e26]; exact wu_n (by omega)
  show PW _ _ _ _ _ _ (112, [(0, .ref 467)], [.ref 480, .ref 467], (481, wu f25 480 (.inl (1, 3, .inr (.inl (fun _ => 0))))))
  rw [← e26]
  refine P_putF (i := 29) d_MD_init_112 ok_Model (by decide) rfl L_MD_53 rfl rfl h467 (fun _ => rfl) (fun _ => rfl) ?_
  obtain ⟨f27, e27⟩ : ∃ f27 : Nat → pE, f27 = wu f26 467 (.inr (9, [.int 0, .ref 468, .int 0, .ref 469, .ref 470, .int 0, .int 0, .ref 471, .ref 472, .ref 473, .int 0, .int 0, .int 0, .ref 474, .ref 475, .int 0, .int 0, .int 0, .int 0, .int 0, .int 0, .int 0, .int 0, .int 0, .int (-1), .ref 476, .ref 477, .ref 478, .ref 479, .ref 480, .null, .null, .null, .int 0, .null, .int 0, .null, .int 0])) := ⟨_, rfl⟩
  have h468 : f27 468 = .inl (0, 900, .inl (fun _ => 0)) := by rw [e27]; exact (wu_n (by decide)).trans h468
  have h469 : f27 469 = .inl (0, 64, .inl (fun _ => 0)) := by rw [e27]; exact (wu_n (by decide)).trans h469
  have h470 : f27 470 = .inl (0, 64, .inl (fun _ => 0)) := by rw [e27]; exact (wu_n (by decide)).trans h470
  have h471 : f27 471 = .inl (1, 170, .inr (.inl (fun _ => 0))) := by rw [e27]; exact (wu_n (by decide)).trans h471
  have h472 : f27 472 = .inl (1, 170, .inr (.inl (fun _ => 0))) := by rw [e27]; exact (wu_n (by decide)).trans h472
  have h473 : f27 473 = .inl (1, 2720, .inr (.inl (fun _ => 0))) := by rw [e27]; exact (wu_n (by decide)).trans h473
  have h474 : f27 474 = .inl (0, 8, .inl (fun _ => 0)) := by rw [e27]; exact (wu_n (by decide)).trans h474
  have h475 : f27 475 = .inl (0, 8, .inl (fun _ => 0)) := by rw [e27]; exact (wu_n (by decide)).trans h475
  have h476 : f27 476 = .inl (1, 9, .inr (.inl (fun _ => 0))) := by rw [e27]; exact (wu_n (by decide)).trans h476
  have h477 : f27 477 = .inl (1, 9, .inr (.inl (fun _ => 0))) := by rw [e27]; exact (wu_n (by decide)).trans h477
  have h478 : f27 478 = .inl (1, 9, .inr (.inl (fun _ => 0))) := by rw [e27]; exact (wu_n (by decide)).trans h478
  have h479 : f27 479 = .inl (1, 3, .inr (.inl (fun _ => 0))) := by rw [e27]; exact (wu_n (by decide)).trans h479
  have h480 : f27 480 = .inl (1, 3, .inr (.inl (fun _ => 0))) := by rw [e27]; exact (wu_n (by decide)).trans h480
  have h467 : f27 467 = .inr (9, [.int 0, .ref 468, .int 0, .ref 469, .ref 470, .int 0, .int 0, .ref 471, .ref 472, .ref 473, .int 0, .int 0, .int 0, .ref 474, .ref 475, .int 0, .int 0, .int 0, .int 0, .int 0, .int 0, .int 0, .int 0, .int 0, .int (-1), .ref 476, .ref 477, .ref 478, .ref 479, .ref 480, .null, .null, .null, .int 0, .null, .int 0, .null, .int 0]) := by rw [e27]; exact wu_s _ _ _
  have o27 : ∀ i, (i < 467 ∨ 468 ≤ i) → f27 i = f26 i := fun i h1 => by rw [e27]; exact wu_n (by omega)
  show PW _ _ _ _ _ _ (115, [(0, .ref 467)], [], (481, wu f26 467 (.inr (9, [.int 0, .ref 468, .int 0, .ref 469, .ref 470, .int 0, .int 0, .ref 471, .ref 472, .ref 473, .int 0, .int 0, .int 0, .ref 474, .ref 475, .int 0, .int 0, .int 0, .int 0, .int 0, .int 0, .int 0, .int 0, .int 0, .int (-1), .ref 476, .ref 477, .ref 478, .ref 479, .ref 480, .null, .null, .null, .int 0, .null, .int 0, .null, .int 0]))))
  rw [← e27]
  refine P_aload_n d_MD_init_115 rfl ?_
  refine P_bipush (v := 16) d_MD_init_116 (by decide) ?_
  refine P_newarr (t := 0) (N := 16) (a0 := (16, .inl (fun _ => 0))) d_MD_init_118 rfl (by decide) ac_int ⟨by decide, by decide⟩ (le_b rfl) ⟨rfl, fun _ _ => rfl⟩ (le_b rfl) (le_b rfl) (le_b rfl) ?_
  obtain ⟨f28, e28⟩ : ∃ f28 : Nat → pE, f28 = wu f27 481 (.inl (0, 16, .inl (fun _ => 0))) := ⟨_, rfl⟩
  have h468 : f28 468 = .inl (0, 900, .inl (fun _ => 0)) := by rw [e28]; exact (wu_n (by decide)).trans h468
  have h469 : f28 469 = .inl (0, 64, .inl (fun _ => 0)) := by rw [e28]; exact (wu_n (by decide)).trans h469
  have h470 : f28 470 = .inl (0, 64, .inl (fun _ => 0)) := by rw [e28]; exact (wu_n (by decide)).trans h470
  have h471 : f28 471 = .inl (1, 170, .inr (.inl (fun _ => 0))) := by rw [e28]; exact (wu_n (by decide)).trans h471
  have h472 : f28 472 = .inl (1, 170, .inr (.inl (fun _ => 0))) := by rw [e28]; exact (wu_n (by decide)).trans h472
  have h473 : f28 473 = .inl (1, 2720, .inr (.inl (fun _ => 0))) := by rw [e28]; exact (wu_n (by decide)).trans h473
  have h474 : f28 474 = .inl (0, 8, .inl (fun _ => 0)) := by rw [e28]; exact (wu_n (by decide)).trans h474
  have h475 : f28 475 = .inl (0, 8, .inl (fun _ => 0)) := by rw [e28]; exact (wu_n (by decide)).trans h475
  have h476 : f28 476 = .inl (1, 9, .inr (.inl (fun _ => 0))) := by rw [e28]; exact (wu_n (by decide)).trans h476
  have h477 : f28 477 = .inl (1, 9, .inr (.inl (fun _ => 0))) := by rw [e28]; exact (wu_n (by decide)).trans h477
  have h478 : f28 478 = .inl (1, 9, .inr (.inl (fun _ => 0))) := by rw [e28]; exact (wu_n (by decide)).trans h478
  have h479 : f28 479 = .inl (1, 3, .inr (.inl (fun _ => 0))) := by rw [e28]; exact (wu_n (by decide)).trans h479
  have h480 : f28 480 = .inl (1, 3, .inr (.inl (fun _ => 0))) := by rw [e28]; exact (wu_n (by decide)).trans h480
  have h467 : f28 467 = .inr (9, [.int 0, .ref 468, .int 0, .ref 469, .ref 470, .int 0, .int 0, .ref 471, .ref 472, .ref 473, .int 0, .int 0, .int 0, .ref 474, .ref 475, .int 0, .int 0, .int 0, .int 0, .int 0, .int 0, .int 0, .int 0, .int 0, .int (-1), .ref 476, .ref 477, .ref 478, .ref 479, .ref 480, .null, .null, .null, .int 0, .null, .int 0, .null, .int 0]) := by rw [e28]; exact (wu_n (by decide)).trans h467
  have h481 : f28 481 = .inl (0, 16, .inl (fun _ => 0)) := by rw [e28]; exact wu_s _ _ _
  have o28 : ∀ i, (i < 481 ∨ 482 ≤ i) → f28 i = f27 i := fun i h1 => by rw [e28]; exact wu_n (by omega)
  show PW _ _ _ _ _ _ (120, [(0, .ref 467)], [.ref 481, .ref 467], (482, wu f27 481 (.inl (0, 16, .inl (fun _ => 0)))))
  rw [← e28]
  refine P_putF (i := 30) d_MD_init_120 ok_Model (by decide) rfl L_MD_56 rfl rfl h467 (fun _ => rfl) (fun _ => rfl) ?_
  obtain ⟨f29, e29⟩ : ∃ f29 : Nat → pE, f29 = wu f28 467 (.inr (9, [.int 0, .ref 468, .int 0, .ref 469, .ref 470, .int 0, .int 0, .ref 471, .ref 472, .ref 473, .int 0, .int 0, .int 0, .ref 474, .ref 475, .int 0, .int 0, .int 0, .int 0, .int 0, .int 0, .int 0, .int 0, .int 0, .int (-1), .ref 476, .ref 477, .ref 478, .ref 479, .ref 480, .ref 481, .null, .null, .int 0, .null, .int 0, .null, .int 0])) := ⟨_, rfl⟩
  have h468 : f29 468 = .inl (0, 900, .inl (fun _ => 0)) := by rw [e29]; exact (wu_n (by decide)).trans h468
  have h469 : f29 469 = .inl (0, 64, .inl (fun _ => 0)) := by rw [e29]; exact (wu_n (by decide)).trans h469
  have h470 : f29 470 = .inl (0, 64, .inl (fun _ => 0)) := by rw [e29]; exact (wu_n (by decide)).trans h470
  have h471 : f29 471 = .inl (1, 170, .inr (.inl (fun _ => 0))) := by rw [e29]; exact (wu_n (by decide)).trans h471
  have h472 : f29 472 = .inl (1, 170, .inr (.inl (fun _ => 0))) := by rw [e29]; exact (wu_n (by decide)).trans h472
  have h473 : f29 473 = .inl (1, 2720, .inr (.inl (fun _ => 0))) := by rw [e29]; exact (wu_n (by decide)).trans h473
  have h474 : f29 474 = .inl (0, 8, .inl (fun _ => 0)) := by rw [e29]; exact (wu_n (by decide)).trans h474
  have h475 : f29 475 = .inl (0, 8, .inl (fun _ => 0)) := by rw [e29]; exact (wu_n (by decide)).trans h475
  have h476 : f29 476 = .inl (1, 9, .inr (.inl (fun _ => 0))) := by rw [e29]; exact (wu_n (by decide)).trans h476
  have h477 : f29 477 = .inl (1, 9, .inr (.inl (fun _ => 0))) := by rw [e29]; exact (wu_n (by decide)).trans h477
  have h478 : f29 478 = .inl (1, 9, .inr (.inl (fun _ => 0))) := by rw [e29]; exact (wu_n (by decide)).trans h478
  have h479 : f29 479 = .inl (1, 3, .inr (.inl (fun _ => 0))) := by rw [e29]; exact (wu_n (by decide)).trans h479
  have h480 : f29 480 = .inl (1, 3, .inr (.inl (fun _ => 0))) := by rw [e29]; exact (wu_n (by decide)).trans h480
  have h481 : f29 481 = .inl (0, 16, .inl (fun _ => 0)) := by rw [e29]; exact (wu_n (by decide)).trans h481
  have h467 : f29 467 = .inr (9, [.int 0, .ref 468, .int 0, .ref 469, .ref 470, .int 0, .int 0, .ref 471, .ref 472, .ref 473, .int 0, .int 0, .int 0, .ref 474, .ref 475, .int 0, .int 0, .int 0, .int 0, .int 0, .int 0, .int 0, .int 0, .int 0, .int (-1), .ref 476, .ref 477, .ref 478, .ref 479, .ref 480, .ref 481, .null, .null, .int 0, .null, .int 0, .null, .int 0]) := by rw [e29]; exact wu_s _ _ _
  have o29 : ∀ i, (i < 467 ∨ 468 ≤ i) → f29 i = f28 i := fun i h1 => by rw [e29]; exact wu_n (by omega)
  show PW _ _ _ _ _ _ (123, [(0, .ref 467)], [], (482, wu f28 467 (.inr (9, [.int 0, .ref 468, .int 0, .ref 469, .ref 470, .int 0, .int 0, .ref 471, .ref 472, .ref 473, .int 0, .int 0, .int 0, .ref 474, .ref 475, .int 0, .int 0, .int 0, .int 0, .int 0, .int 0, .int 0, .int 0, .int 0, .int (-1), .ref 476, .ref 477, .ref 478, .ref 479, .ref 480, .ref 481, .null, .null, .int 0, .null, .int 0, .null, .int 0]))))
  rw [← e29]
  refine P_aload_n d_MD_init_123 rfl ?_
  refine P_bipush (v := 9) d_MD_init_124 (by decide) ?_
  refine P_newarr (t := 1) (N := 9) (a0 := (9, .inr (.inl (fun _ => 0)))) d_MD_init_126 rfl (by decide) ac_long ⟨by decide, by decide⟩ (le_b rfl) ⟨rfl, fun _ _ => rfl⟩ (le_b rfl) (le_b rfl) (le_b rfl) ?_
  obtain ⟨f30, e30⟩ : ∃ f30 : Nat → pE, f30 = wu f29 482 (.inl (1, 9, .inr (.inl (fun _ => 0)))) := ⟨_, rfl⟩
  have h468 : f30 468 = .inl (0, 900, .inl (fun _ => 0)) := by rw [e30]; exact (wu_n (by decide)).trans h468
  have h469 : f30 469 = .inl (0, 64, .inl (fun _ => 0)) := by rw [e30]; exact (wu_n (by decide)).trans h469
  have h470 : f30 470 = .inl (0, 64, .inl (fun _ => 0)) := by rw [e30]; exact (wu_n (by decide)).trans h470
  have h471 : f30 471 = .inl (1, 170, .inr (.inl (fun _ => 0))) := by rw [e30]; exact (wu_n (by decide)).trans h471
  have h472 : f30 472 = .inl (1, 170, .inr (.inl (fun _ => 0))) := by rw [e30]; exact (wu_n (by decide)).trans h472
  have h473 : f30 473 = .inl (1, 2720, .inr (.inl (fun _ => 0))) := by rw [e30]; exact (wu_n (by decide)).trans h473
  have h474 : f30 474 = .inl (0, 8, .inl (fun _ => 0)) := by rw [e30]; exact (wu_n (by decide)).trans h474
  have h475 : f30 475 = .inl (0, 8, .inl (fun _ => 0)) := by rw [e30]; exact (wu_n (by decide)).trans h475
  have h476 : f30 476 = .inl (1, 9, .inr (.inl (fun _ => 0))) := by rw [e30]; exact (wu_n (by decide)).trans h476
  have h477 : f30 477 = .inl (1, 9, .inr (.inl (fun _ => 0))) := by rw [e30]; exact (wu_n (by decide)).trans h477
  have h478 : f30 478 = .inl (1, 9, .inr (.inl (fun _ => 0))) := by rw [e30]; exact (wu_n (by decide)).trans h478
  have h479 : f30 479 = .inl (1, 3, .inr (.inl (fun _ => 0))) := by rw [e30]; exact (wu_n (by decide)).trans h479
  have h480 : f30 480 = .inl (1, 3, .inr (.inl (fun _ => 0))) := by rw [e30]; exact (wu_n (by decide)).trans h480
  have h481 : f30 481 = .inl (0, 16, .inl (fun _ => 0)) := by rw [e30]; exact (wu_n (by decide)).trans h481
  have h467 : f30 467 = .inr (9, [.int 0, .ref 468, .int 0, .ref 469, .ref 470, .int 0, .int 0, .ref 471, .ref 472, .ref 473, .int 0, .int 0, .int 0, .ref 474, .ref 475, .int 0, .int 0, .int 0, .int 0, .int 0, .int 0, .int 0, .int 0, .int 0, .int (-1), .ref 476, .ref 477, .ref 478, .ref 479, .ref 480, .ref 481, .null, .null, .int 0, .null, .int 0, .null, .int 0]) := by rw [e30]; exact (wu_n (by decide)).trans h467
  have h482 : f30 482 = .inl (1, 9, .inr (.inl (fun _ => 0))) := by rw [e30]; exact wu_s _ _ _
  have o30 : ∀ i, (i < 482 ∨ 483 ≤ i) → f30 i = f29 i := fun i h1 => by rw [e30]; exact wu_n (by omega)
  show PW _ _ _ _ _ _ (128, [(0, .ref 467)], [.ref 482, .ref 467], (483, wu f29 482 (.inl (1, 9, .inr (.inl (fun _ => 0))))))
  rw [← e30]
  refine P_putF (i := 31) d_MD_init_128 ok_Model (by decide) rfl L_MD_59 rfl rfl h467 (fun _ => rfl) (fun _ => rfl) ?_
  obtain ⟨f31, e31⟩ : ∃ f31 : Nat → pE, f31 = wu f30 467 (.inr (9, [.int 0, .ref 468, .int 0, .ref 469, .ref 470, .int 0, .int 0, .ref 471, .ref 472, .ref 473, .int 0, .int 0, .int 0, .ref 474, .ref 475, .int 0, .int 0, .int 0, .int 0, .int 0, .int 0, .int 0, .int 0, .int 0, .int (-1), .ref 476, .ref 477, .ref 478, .ref 479, .ref 480, .ref 481, .ref 482, .null, .int 0, .null, .int 0, .null, .int 0])) := ⟨_, rfl⟩
  have h468 : f31 468 = .inl (0, 900, .inl (fun _ => 0)) := by rw [e31]; exact (wu_n (by decide)).trans h468
  have h469 : f31 469 = .inl (0, 64, .inl (fun _ => 0)) := by rw [e31]; exact (wu_n (by decide)).trans h469
  have h470 : f31 470 = .inl (0, 64, .inl (fun _ => 0)) := by rw [e31]; exact (wu_n (by decide)).trans h470
  have h471 : f31 471 = .inl (1, 170, .inr (.inl (fun _ => 0))) := by rw [e31]; exact (wu_n (by decide)).trans h471
  have h472 : f31 472 = .inl (1, 170, .inr (.inl (fun _ => 0))) := by rw [e31]; exact (wu_n (by decide)).trans h472
  have h473 : f31 473 = .inl (1, 2720, .inr (.inl (fun _ => 0))) := by rw [e31]; exact (wu_n (by decide)).trans h473
  have h474 : f31 474 = .inl (0, 8, .inl (fun _ => 0)) := by rw [e31]; exact (wu_n (by decide)).trans h474
  have h475 : f31 475 = .inl (0, 8, .inl (fun _ => 0)) := by rw [e31]; exact (wu_n (by decide)).trans h475
  have h476 : f31 476 = .inl (1, 9, .inr (.inl (fun _ => 0))) := by rw [e31]; exact (wu_n (by decide)).trans h476
  have h477 : f31 477 = .inl (1, 9, .inr (.inl (fun _ => 0))) := by rw [e31]; exact (wu_n (by decide)).trans h477
  have h478 : f31 478 = .inl (1, 9, .inr (.inl (fun _ => 0))) := by rw [e31]; exact (wu_n (by decide)).trans h478
  have h479 : f31 479 = .inl (1, 3, .inr (.inl (fun _ => 0))) := by rw [e31]; exact (wu_n (by decide)).trans h479
  have h480 : f31 480 = .inl (1, 3, .inr (.inl (fun _ => 0))) := by rw [e31]; exact (wu_n (by decide)).trans h480
  have h481 : f31 481 = .inl (0, 16, .inl (fun _ => 0)) := by rw [e31]; exact (wu_n (by decide)).trans h481
  have h482 : f31 482 = .inl (1, 9, .inr (.inl (fun _ => 0))) := by rw [e31]; exact (wu_n (by decide)).trans h482
  have h467 : f31 467 = .inr (9, [.int 0, .ref 468, .int 0, .ref 469, .ref 470, .int 0, .int 0, .ref 471, .ref 472, .ref 473, .int 0, .int 0, .int 0, .ref 474, .ref 475, .int 0, .int 0, .int 0, .int 0, .int 0, .int 0, .int 0, .int 0, .int 0, .int (-1), .ref 476, .ref 477, .ref 478, .ref 479, .ref 480, .ref 481, .ref 482, .null, .int 0, .null, .int 0, .null, .int 0]) := by rw [e31]; exact wu_s _ _ _
  have o31 : ∀ i, (i < 467 ∨ 468 ≤ i) → f31 i = f30 i := fun i h1 => by rw [e31]; exact wu_n (by omega)
  show PW _ _ _ _ _ _ (131, [(0, .ref 467)], [], (483, wu f30 467 (.inr (9, [.int 0, .ref 468, .int 0, .ref 469, .ref 470, .int 0, .int 0, .ref 471, .ref 472, .ref 473, .int 0, .int 0, .int 0, .ref 474, .ref 475, .int 0, .int 0, .int 0, .int 0, .int 0, .int 0, .int 0, .int 0, .int 0, .int (-1), .ref 476, .ref 477, .ref 478, .ref 479, .ref 480, .ref 481, .ref 482, .null, .int 0, .null, .int 0, .null, .int 0]))))
  rw [← e31]
  refine P_aload_n d_MD_init_131 rfl ?_
  refine P_iconst (v := 3) d_MD_init_132 (by decide) ?_
  refine P_newarr (t := 0) (N := 3) (a0 := (3, .inl (fun _ => 0))) d_MD_init_133 rfl (by decide) ac_int ⟨by decide, by decide⟩ (le_b rfl) ⟨rfl, fun _ _ => rfl⟩ (le_b rfl) (le_b rfl) (le_b rfl) ?_
  obtain ⟨f32, e32⟩ : ∃ f32 : Nat → pE, f32 = wu f31 483 (.inl (0, 3, .inl (fun _ => 0))) := ⟨_, rfl⟩
  have h468 : f32 468 = .inl (0, 900, .inl (fun _ => 0)) := by rw [e32]; exact (wu_n (by decide)).trans h468
  have h469 : f32 469 = .inl (0, 64, .inl (fun _ => 0)) := by rw [e32]; exact (wu_n (by decide)).trans h469
  have h470 : f32 470 = .inl (0, 64, .inl (fun _ => 0)) := by rw [e32]; exact (wu_n (by decide)).trans h470
  have h471 : f32 471 = .inl (1, 170, .inr (.inl (fun _ => 0))) := by rw [e32]; exact (wu_n (by decide)).trans h471
  have h472 : f32 472 = .inl (1, 170, .inr (.inl (fun _ => 0))) := by rw [e32]; exact (wu_n (by decide)).trans h472
  have h473 : f32 473 = .inl (1, 2720, .inr (.inl (fun _ => 0))) := by rw [e32]; exact (wu_n (by decide)).trans h473
  have h474 : f32 474 = .inl (0, 8, .inl (fun _ => 0)) := by rw [e32]; exact (wu_n (by decide)).trans h474
  have h475 : f32 475 = .inl (0, 8, .inl (fun _ => 0)) := by rw [e32]; exact (wu_n (by decide)).trans h475
  have h476 : f32 476 = .inl (1, 9, .inr (.inl (fun _ => 0))) := by rw [e32]; exact (wu_n (by decide)).trans h476
  have h477 : f32 477 = .inl (1, 9, .inr (.inl (fun _ => 0))) := by rw [e32]; exact (wu_n (by decide)).trans h477
  have h478 : f32 478 = .inl (1, 9, .inr (.inl (fun _ => 0))) := by rw [e32]; exact (wu_n (by decide)).trans h478
  have h479 : f32 479 = .inl (1, 3, .inr (.inl (fun _ => 0))) := by rw [e32]; exact (wu_n (by decide)).trans h479
  have h480 : f32 480 = .inl (1, 3, .inr (.inl (fun _ => 0))) := by rw [e32]; exact (wu_n (by decide)).trans h480
  have h481 : f32 481 = .inl (0, 16, .inl (fun _ => 0)) := by rw [e32]; exact (wu_n (by decide)).trans h481
  have h482 : f32 482 = .inl (1, 9, .inr (.inl (fun _ => 0))) := by rw [e32]; exact (wu_n (by decide)).trans h482
  have h467 : f32 467 = .inr (9, [.int 0, .ref 468, .int 0, .ref 469, .ref 470, .int 0, .int 0, .ref 471, .ref 472, .ref 473, .int 0, .int 0, .int 0, .ref 474, .ref 475, .int 0, .int 0, .int 0, .int 0, .int 0, .int 0, .int 0, .int 0, .int 0, .int (-1), .ref 476, .ref 477, .ref 478, .ref 479, .ref 480, .ref 481, .ref 482, .null, .int 0, .null, .int 0, .null, .int 0]) := by rw [e32]; exact (wu_n (by decide)).trans h467
  have h483 : f32 483 = .inl (0, 3, .inl (fun _ => 0)) := by rw [e32]; exact wu_s _ _ _
  have o32 : ∀ i, (i < 483 ∨ 484 ≤ i) → f32 i = f31 i := fun i h1 => by rw [e32]; exact wu_n (by omega)
  show PW _ _ _ _ _ _ (135, [(0, .ref 467)], [.ref 483, .ref 467], (484, wu f31 483 (.inl (0, 3, .inl (fun _ => 0)))))
  rw [← e32]
  refine P_putF (i := 32) d_MD_init_135 ok_Model (by decide) rfl L_MD_62 rfl rfl h467 (fun _ => rfl) (fun _ => rfl) ?_
  obtain ⟨f33, e33⟩ : ∃ f33 : Nat → pE, f33 = wu f32 467 (.inr (9, [.int 0, .ref 468, .int 0, .ref 469, .ref 470, .int 0, .int 0, .ref 471, .ref 472, .ref 473, .int 0, .int 0, .int 0, .ref 474, .ref 475, .int 0, .int 0, .int 0, .int 0, .int 0, .int 0, .int 0, .int 0, .int 0, .int (-1), .ref 476, .ref 477, .ref 478, .ref 479, .ref 480, .ref 481, .ref 482, .ref 483, .int 0, .null, .int 0, .null, .int 0])) := ⟨_, rfl⟩
  have h468 : f33 468 = .inl (0, 900, .inl (fun _ => 0)) := by rw [e33]; exact (wu_n (by decide)).trans h468
  have h469 : f33 469 = .inl (0, 64, .inl (fun _ => 0)) := by rw [e33]; exact (wu_n (by decide)).trans h469
  have h470 : f33 470 = .inl (0, 64, .inl (fun _ => 0)) := by rw [e33]; exact (wu_n (by decide)).trans h470
  have h471 : f33 471 = .inl (1, 170, .inr (.inl (fun _ => 0))) := by rw [e33]; exact (wu_n (by decide)).trans h471
  have h472 : f33 472 = .inl (1, 170, .inr (.inl (fun _ => 0))) := by rw [e33]; exact (wu_n (by decide)).trans h472
  have h473 : f33 473 = .inl (1, 2720, .inr (.inl (fun _ => 0))) := by rw [e33]; exact (wu_n (by decide)).trans h473
  have h474 : f33 474 = .inl (0, 8, .inl (fun _ => 0)) := by rw [e33]; exact (wu_n (by decide)).trans h474
  have h475 : f33 475 = .inl (0, 8, .inl (fun _ => 0)) := by rw [e33]; exact (wu_n (by decide)).trans h475
  have h476 : f33 476 = .inl (1, 9, .inr (.inl (fun _ => 0))) := by rw [e33]; exact (wu_n (by decide)).trans h476
  have h477 : f33 477 = .inl (1, 9, .inr (.inl (fun _ => 0))) := by rw [e33]; exact (wu_n (by decide)).trans h477
  have h478 : f33 478 = .inl (1, 9, .inr (.inl (fun _ => 0))) := by rw [e33]; exact (wu_n (by decide)).trans h478
  have h479 : f33 479 = .inl (1, 3, .inr (.inl (fun _ => 0))) := by rw [e33]; exact (wu_n (by decide)).trans h479
  have h480 : f33 480 = .inl (1, 3, .inr (.inl (fun _ => 0))) := by rw [e33]; exact (wu_n (by decide)).trans h480
  have h481 : f33 481 = .inl (0, 16, .inl (fun _ => 0)) := by rw [e33]; exact (wu_n (by decide)).trans h481
  have h482 : f33 482 = .inl (1, 9, .inr (.inl (fun _ => 0))) := by rw [e33]; exact (wu_n (by decide)).trans h482
  have h483 : f33 483 = .inl (0, 3, .inl (fun _ => 0)) := by rw [e33]; exact (wu_n (by decide)).trans h483
  have h467 : f33 467 = .inr (9, [.int 0, .ref 468, .int 0, .ref 469, .ref 470, .int 0, .int 0, .ref 471, .ref 472, .ref 473, .int 0, .int 0, .int 0, .ref 474, .ref 475, .int 0, .int 0, .int 0, .int 0, .int 0, .int 0, .int 0, .int 0, .int 0, .int (-1), .ref 476, .ref 477, .ref 478, .ref 479, .ref 480, .ref 481, .ref 482, .ref 483, .int 0, .null, .int 0, .null, .int 0]) := by rw [e33]; exact wu_s _ _ _
  have o33 : ∀ i, (i < 467 ∨ 468 ≤ i) → f33 i = f32 i := fun i h1 => by rw [e33]; exact wu_n (by omega)
  show PW _ _ _ _ _ _ (138, [(0, .ref 467)], [], (484, wu f32 467 (.inr (9, [.int 0, .ref 468, .int 0, .ref 469, .ref 470, .int 0, .int 0, .ref 471, .ref 472, .ref 473, .int 0, .int 0, .int 0, .ref 474, .ref 475, .int 0, .int 0, .int 0, .int 0, .int 0, .int 0, .int 0, .int 0, .int 0, .int (-1), .ref 476, .ref 477, .ref 478, .ref 479, .ref 480, .ref 481, .ref 482, .ref 483, .int 0, .null, .int 0, .null, .int 0]))))
  rw [← e33]
  refine P_aload_n d_MD_init_138 rfl ?_
  refine P_sipush (v := 2448) d_MD_init_139 (by decide) ?_
  refine P_newarr (t := 1) (N := 2448) (a0 := (2448, .inr (.inl (fun _ => 0)))) d_MD_init_142 rfl (by decide) ac_long ⟨by decide, by decide⟩ (le_b rfl) ⟨rfl, fun _ _ => rfl⟩ (le_b rfl) (le_b rfl) (le_b rfl) ?_
  obtain ⟨f34, e34⟩ : ∃ f34 : Nat → pE, f34 = wu f33 484 (.inl (1, 2448, .inr (.inl (fun _ => 0)))) := ⟨_, rfl⟩
  have h468 : f34 468 = .inl (0, 900, .inl (fun _ => 0)) := by rw [e34]; exact (wu_n (by decide)).trans h468
  have h469 : f34 469 = .inl (0, 64, .inl (fun _ => 0)) := by rw [e34]; exact (wu_n (by decide)).trans h469
  have h470 : f34 470 = .inl (0, 64, .inl (fun _ => 0)) := by rw [e34]; exact (wu_n (by decide)).trans h470
  have h471 : f34 471 = .inl (1, 170, .inr (.inl (fun _ => 0))) := by rw [e34]; exact (wu_n (by decide)).trans h471
  have h472 : f34 472 = .inl (1, 170, .inr (.inl (fun _ => 0))) := by rw [e34]; exact (wu_n (by decide)).trans h472
  have h473 : f34 473 = .inl (1, 2720, .inr (.inl (fun _ => 0))) := by rw [e34]; exact (wu_n (by decide)).trans h473
  have h474 : f34 474 = .inl (0, 8, .inl (fun _ => 0)) := by rw [e34]; exact (wu_n (by decide)).trans h474
  have h475 : f34 475 = .inl (0, 8, .inl (fun _ => 0)) := by rw [e34]; exact (wu_n (by decide)).trans h475
  have h476 : f34 476 = .inl (1, 9, .inr (.inl (fun _ => 0))) := by rw [e34]; exact (wu_n (by decide)).trans h476
  have h477 : f34 477 = .inl (1, 9, .inr (.inl (fun _ => 0))) := by rw [e34]; exact (wu_n (by decide)).trans h477
  have h478 : f34 478 = .inl (1, 9, .inr (.inl (fun _ => 0))) := by rw [e34]; exact (wu_n (by decide)).trans h478
  have h479 : f34 479 = .inl (1, 3, .inr (.inl (fun _ => 0))) := by rw [e34]; exact (wu_n (by decide)).trans h479
  have h480 : f34 480 = .inl (1, 3, .inr (.inl (fun _ => 0))) := by rw [e34]; exact (wu_n (by decide)).trans h480
  have h481 : f34 481 = .inl (0, 16, .inl (fun _ => 0)) := by rw [e34]; exact (wu_n (by decide)).trans h481
  have h482 : f34 482 = .inl (1, 9, .inr (.inl (fun _ => 0))) := by rw [e34]; exact (wu_n (by decide)).trans h482
  have h483 : f34 483 = .inl (0, 3, .inl (fun _ => 0)) := by rw [e34]; exact (wu_n (by decide)).trans h483
  have h467 : f34 467 = .inr (9, [.int 0, .ref 468, .int 0, .ref 469, .ref 470, .int 0, .int 0, .ref 471, .ref 472, .ref 473, .int 0, .int 0, .int 0, .ref 474, .ref 475, .int 0, .int 0, .int 0, .int 0, .int 0, .int 0, .int 0, .int 0, .int 0, .int (-1), .ref 476, .ref 477, .ref 478, .ref 479, .ref 480, .ref 481, .ref 482, .ref 483, .int 0, .null, .int 0, .null, .int 0]) := by rw [e34]; exact (wu_n (by decide)).trans h467
  have h484 : f34 484 = .inl (1, 2448, .inr (.inl (fun _ => 0))) := by rw [e34]; exact wu_s _ _ _
  have o34 : ∀ i, (i < 484 ∨ 485 ≤ i) → f34 i = f33 i := fun i h1 => by rw [e34]; exact wu_n (by omega)
  show PW _ _ _ _ _ _ (144, [(0, .ref 467)], [.ref 484, .ref 467], (485, wu f33 484 (.inl (1, 2448, .inr (.inl (fun _ => 0))))))
  rw [← e34]
  refine P_putF (i := 34) d_MD_init_144 ok_Model (by decide) rfl L_MD_65 rfl rfl h467 (fun _ => rfl) (fun _ => rfl) ?_
  obtain ⟨f35, e35⟩ : ∃ f35 : Nat → pE, f35 = wu f34 467 (.inr (9, [.int 0, .ref 468, .int 0, .ref 469, .ref 470, .int 0, .int 0, .ref 471, .ref 472, .ref 473, .int 0, .int 0, .int 0, .ref 474, .ref 475, .int 0, .int 0, .int 0, .int 0, .int 0, .int 0, .int 0, .int 0, .int 0, .int (-1), .ref 476, .ref 477, .ref 478, .ref 479, .ref 480, .ref 481, .ref 482, .ref 483, .int 0, .ref 484, .int 0, .null, .int 0])) := ⟨_, rfl⟩
  have h468 : f35 468 = .inl (0, 900, .inl (fun _ => 0)) := by rw [e35]; exact (wu_n (by decide)).trans h468
  have h469 : f35 469 = .inl (0, 64, .inl (fun _ => 0)) := by rw [e35]; exact (wu_n (by decide)).trans h469
  have h470 : f35 470 = .inl (0, 64, .inl (fun _ => 0)) := by rw [e35]; exact (wu_n (by decide)).trans h470
  have h471 : f35 471 = .inl (1, 170, .inr (.inl (fun _ => 0))) := by rw [e35]; exact (wu_n (by decide)).trans h471
  have h472 : f35 472 = .inl (1, 170, .inr (.inl (fun _ => 0))) := by rw [e35]; exact (wu_n (by decide)).trans h472
  have h473 : f35 473 = .inl (1, 2720, .inr (.inl (fun _ => 0))) := by rw [e35]; exact (wu_n (by decide)).trans h473
  have h474 : f35 474 = .inl (0, 8, .inl (fun _ => 0)) := by rw [e35]; exact (wu_n (by decide)).trans h474
  have h475 : f35 475 = .inl (0, 8, .inl (fun _ => 0)) := by rw [e35]; exact (wu_n (by decide)).trans h475
  have h476 : f35 476 = .inl (1, 9, .inr (.inl (fun _ => 0))) := by rw [e35]; exact (wu_n (by decide)).trans h476
  have h477 : f35 477 = .inl (1, 9, .inr (.inl (fun _ => 0))) := by rw [e35]; exact (wu_n (by decide)).trans h477
  have h478 : f35 478 = .inl (1, 9, .inr (.inl (fun _ => 0))) := by rw [e35]; exact (wu_n (by decide)).trans h478
  have h479 : f35 479 = .inl (1, 3, .inr (.inl (fun _ => 0))) := by rw [e35]; exact (wu_n (by decide)).trans h479
  have h480 : f35 480 = .inl (1, 3, .inr (.inl (fun _ => 0))) := by rw [e35]; exact (wu_n (by decide)).trans h480
  have h481 : f35 481 = .inl (0, 16, .inl (fun _ => 0)) := by rw [e35]; exact (wu_n (by decide)).trans h481
  have h482 : f35 482 = .inl (1, 9, .inr (.inl (fun _ => 0))) := by rw [e35]; exact (wu_n (by decide)).trans h482
  have h483 : f35 483 = .inl (0, 3, .inl (fun _ => 0)) := by rw [e35]; exact (wu_n (by decide)).trans h483
  have h484 : f35 484 = .inl (1, 2448, .inr (.inl (fun _ => 0))) := by rw [e35]; exact (wu_n (by decide)).trans h484
  have h467 : f35 467 = .inr (9, [.int 0, .ref 468, .int 0, .ref 469, .ref 470, .int 0, .int 0, .ref 471, .ref 472, .ref 473, .int 0, .int 0, .int 0, .ref 474, .ref 475, .int 0, .int 0, .int 0, .int 0, .int 0, .int 0, .int 0, .int 0, .int 0, .int (-1), .ref 476, .ref 477, .ref 478, .ref 479, .ref 480, .ref 481, .ref 482, .ref 483, .int 0, .ref 484, .int 0, .null, .int 0]) := by rw [e35]; exact wu_s _ _ _
  have o35 : ∀ i, (i < 467 ∨ 468 ≤ i) → f35 i = f34 i := fun i h1 => by rw [e35]; exact wu_n (by omega)
  show PW _ _ _ _ _ _ (147, [(0, .ref 467)], [], (485, wu f34 467 (.inr (9, [.int 0, .ref 468, .int 0, .ref 469, .ref 470, .int 0, .int 0, .ref 471, .ref 472, .ref 473, .int 0, .int 0, .int 0, .ref 474, .ref 475, .int 0, .int 0, .int 0, .int 0, .int 0, .int 0, .int 0, .int 0, .int 0, .int (-1), .ref 476, .ref 477, .ref 478, .ref 479, .ref 480, .ref 481, .ref 482, .ref 483, .int 0, .ref 484, .int 0, .null, .int 0]))))
  rw [← e35]
  refine P_aload_n d_MD_init_147 rfl ?_
  refine P_bipush (v := 108) d_MD_init_148 (by decide) ?_
  refine P_newarr (t := 0) (N := 108) (a0 := (108, .inl (fun _ => 0))) d_MD_init_150 rfl (by decide) ac_int ⟨by decide, by decide⟩ (le_b rfl) ⟨rfl, fun _ _ => rfl⟩ (le_b rfl) (le_b rfl) (le_b rfl) ?_
  obtain ⟨f36, e36⟩ : ∃ f36 : Nat → pE, f36 = wu f35 485 (.inl (0, 108, .inl (fun _ => 0))) := ⟨_, rfl⟩
  have h468 : f36 468 = .inl (0, 900, .inl (fun _ => 0)) := by rw [e36]; exact (wu_n (by decide)).trans h468
  have h469 : f36 469 = .inl (0, 64, .inl (fun _ => 0)) := by rw [e36]; exact (wu_n (by decide)).trans h469
  have h470 : f36 470 = .inl (0, 64, .inl (fun _ => 0)) := by rw [e36]; exact (wu_n (by decide)).trans h470
  have h471 : f36 471 = .inl (1, 170, .inr (.inl (fun _ => 0))) := by rw [e36]; exact (wu_n (by decide)).trans h471
  have h472 : f36 472 = .inl (1, 170, .inr (.inl (fun _ => 0))) := by rw [e36]; exact (wu_n (by decide)).trans h472
  have h473 : f36 473 = .inl (1, 2720, .inr (.inl (fun _ => 0))) := by rw [e36]; exact (wu_n (by decide)).trans h473
  have h474 : f36 474 = .inl (0, 8, .inl (fun _ => 0)) := by rw [e36]; exact (wu_n (by decide)).trans h474
  have h475 : f36 475 = .inl (0, 8, .inl (fun _ => 0)) := by rw [e36]; exact (wu_n (by decide)).trans h475
  have h476 : f36 476 = .inl (1, 9, .inr (.inl (fun _ => 0))) := by rw [e36]; exact (wu_n (by decide)).trans h476
  have h477 : f36 477 = .inl (1, 9, .inr (.inl (fun _ => 0))) := by rw [e36]; exact (wu_n (by decide)).trans h477
  have h478 : f36 478 = .inl (1, 9, .inr (.inl (fun _ => 0))) := by rw [e36]; exact (wu_n (by decide)).trans h478
  have h479 : f36 479 = .inl (1, 3, .inr (.inl (fun _ => 0))) := by rw [e36]; exact (wu_n (by decide)).trans h479
  have h480 : f36 480 = .inl (1, 3, .inr (.inl (fun _ => 0))) := by rw [e36]; exact (wu_n (by decide)).trans h480
  have h481 : f36 481 = .inl (0, 16, .inl (fun _ => 0)) := by rw [e36]; exact (wu_n (by decide)).trans h481
  have h482 : f36 482 = .inl (1, 9, .inr (.inl (fun _ => 0))) := by rw [e36]; exact (wu_n (by decide)).trans h482
  have h483 : f36 483 = .inl (0, 3, .inl (fun _ => 0)) := by rw [e36]; exact (wu_n (by decide)).trans h483
  have h484 : f36 484 = .inl (1, 2448, .inr (.inl (fun _ => 0))) := by rw [e36]; exact (wu_n (by decide)).trans h484
  have h467 : f36 467 = .inr (9, [.int 0, .ref 468, .int 0, .ref 469, .ref 470, .int 0, .int 0, .ref 471, .ref 472, .ref 473, .int 0, .int 0, .int 0, .ref 474, .ref 475, .int 0, .int 0, .int 0, .int 0, .int 0, .int 0, .int 0, .int 0, .int 0, .int (-1), .ref 476, .ref 477, .ref 478, .ref 479, .ref 480, .ref 481, .ref 482, .ref 483, .int 0, .ref 484, .int 0, .null, .int 0]) := by rw [e36]; exact (wu_n (by decide)).trans h467
  have h485 : f36 485 = .inl (0, 108, .inl (fun _ => 0)) := by rw [e36]; exact wu_s _ _ _
  have o36 : ∀ i, (i < 485 ∨ 486 ≤ i) → f36 i = f35 i := fun i h1 => by rw [e36]; exact wu_n (by omega)
  show PW _ _ _ _ _ _ (152, [(0, .ref 467)], [.ref 485, .ref 467], (486, wu f35 485 (.inl (0, 108, .inl (fun _ => 0)))))
  rw [← e36]
  refine P_putF (i := 36) d_MD_init_152 ok_Model (by decide) rfl L_MD_68 rfl rfl h467 (fun _ => rfl) (fun _ => rfl) ?_
  obtain ⟨f37, e37⟩ : ∃ f37 : Nat → pE, f37 = wu f36 467 (.inr (9, [.int 0, .ref 468, .int 0, .ref 469, .ref 470, .int 0, .int 0, .ref 471, .ref 472, .ref 473, .int 0, .int 0, .int 0, .ref 474, .ref 475, .int 0, .int 0, .int 0, .int 0, .int 0, .int 0, .int 0, .int 0, .int 0, .int (-1), .ref 476, .ref 477, .ref 478, .ref 479, .ref 480, .ref 481, .ref 482, .ref 483, .int 0, .ref 484, .int 0, .ref 485, .int 0])) := ⟨_, rfl⟩
  have h468 : f37 468 = .inl (0, 900, .inl (fun _ => 0)) := by rw [e37]; exact (wu_n (by decide)).trans h468
  have h469 : f37 469 = .inl (0, 64, .inl (fun _ => 0)) := by rw [e37]; exact (wu_n (by decide)).trans h469
  have h470 : f37 470 = .inl (0, 64, .inl (fun _ => 0)) := by rw [e37]; exact (wu_n (by decide)).trans h470
  have h471 : f37 471 = .inl (1, 170, .inr (.inl (fun _ => 0))) := by rw [e37]; exact (wu_n (by decide)).trans h471
  have h472 : f37 472 = .inl (1, 170, .inr (.inl (fun _ => 0))) := by rw [e37]; exact (wu_n (by decide)).trans h472
  have h473 : f37 473 = .inl (1, 2720, .inr (.inl (fun _ => 0))) := by rw [e37]; exact (wu_n (by decide)).trans h473
  have h474 : f37 474 = .inl (0, 8, .inl (fun _ => 0)) := by rw [e37]; exact (wu_n (by decide)).trans h474
  have h475 : f37 475 = .inl (0, 8, .inl (fun _ => 0)) := by rw [e37]; exact (wu_n (by decide)).trans h475
  have h476 : f37 476 = .inl (1, 9, .inr (.inl (fun _ => 0))) := by rw [e37]; exact (wu_n (by decide)).trans h476
  have h477 : f37 477 = .inl (1, 9, .inr (.inl (fun _ => 0))) := by rw [e37]; exact (wu_n (by decide)).trans h477
  have h478 : f37 478 = .inl (1, 9, .inr (.inl (fun _ => 0))) := by rw [e37]; exact (wu_n (by decide)).trans h478
  have h479 : f37 479 = .inl (1, 3, .inr (.inl (fun _ => 0))) := by rw [e37]; exact (wu_n (by decide)).trans h479
  have h480 : f37 480 = .inl (1, 3, .inr (.inl (fun _ => 0))) := by rw [e37]; exact (wu_n (by decide)).trans h480
  have h481 : f37 481 = .inl (0, 16, .inl (fun _ => 0)) := by rw [e37]; exact (wu_n (by decide)).trans h481
  have h482 : f37 482 = .inl (1, 9, .inr (.inl (fun _ => 0))) := by rw [e37]; exact (wu_n (by decide)).trans h482
  have h483 : f37 483 = .inl (0, 3, .inl (fun _ => 0)) := by rw [e37]; exact (wu_n (by decide)).trans h483
  have h484 : f37 484 = .inl (1, 2448, .inr (.inl (fun _ => 0))) := by rw [e37]; exact (wu_n (by decide)).trans h484
  have h485 : f37 485 = .inl (0, 108, .inl (fun _ => 0)) := by rw [e37]; exact (wu_n (by decide)).trans h485
  have h467 : f37 467 = .inr (9, [.int 0, .ref 468, .int 0, .ref 469, .ref 470, .int 0, .int 0, .ref 471, .ref 472, .ref 473, .int 0, .int 0, .int 0, .ref 474, .ref 475, .int 0, .int 0, .int 0, .int 0, .int 0, .int 0, .int 0, .int 0, .int 0, .int (-1), .ref 476, .ref 477, .ref 478, .ref 479, .ref 480, .ref 481, .ref 482, .ref 483, .int 0, .ref 484, .int 0, .ref 485, .int 0]) := by rw [e37]; exact wu_s _ _ _
  have o37 : ∀ i, (i < 467 ∨ 468 ≤ i) → f37 i = f36 i := fun i h1 => by rw [e37]; exact wu_n (by omega)
  show PW _ _ _ _ _ _ (155, [(0, .ref 467)], [], (486, wu f36 467 (.inr (9, [.int 0, .ref 468, .int 0, .ref 469, .ref 470, .int 0, .int 0, .ref 471, .ref 472, .ref 473, .int 0, .int 0, .int 0, .ref 474, .ref 475, .int 0, .int 0, .int 0, .int 0, .int 0, .int 0, .int 0, .int 0, .int 0, .int (-1), .ref 476, .ref 477, .ref 478, .ref 479, .ref 480, .ref 481, .ref 482, .ref 483, .int 0, .ref 484, .int 0, .ref 485, .int 0]))))
  rw [← e37]
  refine P_aload_n d_MD_init_155 rfl ?_
  refine P_iconst (v := 0) d_MD_init_156 (by decide) ?_
  refine P_putS (i := 10) d_MD_init_157 ok_Model (by decide) rfl L_MD_71 h467 (fun _ => rfl) (fun _ => rfl) rfl ?_
  exact P_vret d_MD_init_160 rfl (le_b rfl) (le_b rfl) ⟨rfl, f37, rfl, fun i h1 h2 => by rw [o37 i (by omega), o36 i (by omega), o35 i (by omega), o34 i (by omega), o33 i (by omega), o32 i (by omega), o31 i (by omega), o30 i (by omega), o29 i (by omega), o28 i (by omega), o27 i (by omega), o26 i (by omega), o25 i (by omega), o24 i (by omega), o23 i (by omega), o22 i (by omega), o21 i (by omega), o20 i (by omega), o19 i (by omega), o18 i (by omega), o17 i (by omega), o16 i (by omega), o15 i (by omega), o14 i (by omega), o13 i (by omega), o12 i (by omega), o11 i (by omega), o10 i (by omega), o9 i (by omega), o8 i (by omega), o7 i (by omega), o6 i (by omega), o5 i (by omega), o4 i (by omega), o3 i (by omega), o2 i (by omega), o1 i (by omega)], h468, h469, h470, h471, h472, h473, h474, h475, h476, h477, h478, h479, h480, h481, h482, h483, h484, h485, h467⟩
end
section
/-! declarations for the calls on new objects (by program) -/
def cfL : List (Nat × pE) := [
  (154, .inl (0, 900, .inl (fun _ => 0))),
  (153, .inr (2, [.ref 154, .int 0])),
  (156, .inl (1, 9, .inr (.inl (fun _ => 0)))),
  (157, .inl (1, 9, .inr (.inl (fun _ => 0)))),
  (155, .inr (3, [.ref 156, .ref 157, .ref 158])),
  (165, .inl (0, 8, .inl (fun _ => 0))),
  (166, .inl (0, 8, .inl (fun _ => 0))),
  (167, .inl (1, 3, .inr (.inl (fun _ => 0)))),
  (168, .inl (1, 9, .inr (.inl (fun _ => 0)))),
  (164, .inr (4, [.ref 153, .ref 155, .ref 165, .ref 166, .ref 167, .ref 168, .ref 77, .int 0, .int 0, .int 0, .int 0, .int 0, .int 0, .int (-1)])),
  (170, .inl (0, 16, .inl (fun _ => 0))),
  (171, .inl (0, 16, .inl (fun _ => 0))),
  (172, .inl (3, 16, refs (rows_of 172 16))),
  (169, .inr (5, [.ref 170, .ref 171, .ref 172, .int 0, .int 0])),
  (190, .inl (3, 256, refs (rows_of 190 256))),
  (189, .inr (6, [.ref 190, .int 0, .int 0])),
  (448, .inl (2, 16, .inl (fun _ => 0))),
  (447, .inr (7, [.ref 448, .int 0, .int 0, .int 0])),
  (449, .inl (1, 9, .inr (.inl (fun _ => 0)))),
  (450, .inl (1, 9, .inr (.inl (fun _ => 0)))),
  (451, .inl (1, 9, .inr (.inl (fun _ => 0)))),
  (452, .inl (1, 3, .inr (.inl (fun _ => 0)))),
  (453, .inl (1, 3, .inr (.inl (fun _ => 0)))),
  (454, .inl (1, 3, .inr (.inl (fun _ => 0)))),
  (455, .inl (1, 3, .inr (.inl (fun _ => 0)))),
  (456, .inl (1, 3, .inr (.inl (fun _ => 0)))),
  (457, .inl (3, 8, refs (rows_of 457 8))),
  (466, .inl (0, 3, .inl (fun _ => 0))),
  (0, .inr (8, [.ref 1, .ref 77, .ref 153, .ref 164, .ref 169, .ref 155, .ref 189, .ref 447, .ref 449, .ref 450, .ref 451, .ref 452, .ref 453, .ref 454, .ref 455, .ref 456, .ref 457, .ref 466])),
  (1, .inr (1, [.ref 2, .ref 3, .ref 20, .int 0, .int 0, .int 0, .int 0])),
  (77, .inr (1, [.ref 78, .ref 79, .ref 96, .int 0, .int 0, .int 0, .int 0])),
  (20, .inl (3, 8, refs (rows_of 20 8))),
  (21, z3)]
def mfL : List (Nat × pE) := [
  (468, .inl (0, 900, .inl (fun _ => 0))),
  (469, .inl (0, 64, .inl (fun _ => 0))),
  (470, .inl (0, 64, .inl (fun _ => 0))),
  (471, .inl (1, 170, .inr (.inl (fun _ => 0)))),
  (472, .inl (1, 170, .inr (.inl (fun _ => 0)))),
  (473, .inl (1, 2720, .inr (.inl (fun _ => 0)))),
  (474, .inl (0, 8, .inl (fun _ => 0))),
  (475, .inl (0, 8, .inl (fun _ => 0))),
  (476, .inl (1, 9, .inr (.inl (fun _ => 0)))),
  (477, .inl (1, 9, .inr (.inl (fun _ => 0)))),
  (478, .inl (1, 9, .inr (.inl (fun _ => 0)))),
  (479, .inl (1, 3, .inr (.inl (fun _ => 0)))),
  (480, .inl (1, 3, .inr (.inl (fun _ => 0)))),
  (481, .inl (0, 16, .inl (fun _ => 0))),
  (482, .inl (1, 9, .inr (.inl (fun _ => 0)))),
  (483, .inl (0, 3, .inl (fun _ => 0))),
  (484, .inl (1, 2448, .inr (.inl (fun _ => 0)))),
  (485, .inl (0, 108, .inl (fun _ => 0))),
  (467, .inr (9, [.int 0, .ref 468, .int 0, .ref 469, .ref 470, .int 0, .int 0, .ref 471, .ref 472, .ref 473, .int 0, .int 0, .int 0, .ref 474, .ref 475, .int 0, .int 0, .int 0, .int 0, .int 0, .int 0, .int 0, .int 0, .int 0, .int (-1), .ref 476, .ref 477, .ref 478, .ref 479, .ref 480, .ref 481, .ref 482, .ref 483, .int 0, .ref 484, .int 0, .ref 485, .int 0]))]
def Has (L : List (Nat × pE)) (f : Nat → pE) : Prop := ∀ q ∈ L, f q.1 = q.2
theorem fa {L : List (Nat × pE)} {f : Nat → pE} (h : Has L f) (i : Nat) {r : Nat} {e : pE} (hi : L[i]? = some (r, e)) : f r = e := h (r, e) (List.mem_of_getElem? hi)
theorem i_contra {q : Int32} (h1 : ¬ q < 0) (h2 : ¬ 0 ≤ q) : False := h2 (Int32.not_lt.mp h1)
theorem l_contra {q : Int32} (h1 : ¬ q < 0) (h2 : ¬ 0 ≤ lg_cmp q.toInt64 0) : False := by
  apply h2
  have h3 : ¬ q.toInt64 < 0 := by
    rw [show (0 : Int64) = (0 : Int32).toInt64 from rfl]
    rw [Int64.lt_iff_toInt_lt, Int32.toInt_toInt64, Int32.toInt_toInt64, ← Int32.lt_iff_toInt_lt]
    exact h1
  unfold lg_cmp
  split
  · decide
  · split
    · decide
    · first | (rename_i h4 h5; exact absurd (Int64.lt_of_le_of_ne (Int64.not_lt.mp h4) h5) h3) | (rename_i h4 h5; exact absurd h5 h3) | decide
def M_Plane_hasQuad : pM := (⟨"CornerMaps$Plane", "hasQuad", "(I)Z"⟩, prog_6_method_3_code, 2, some .boolean)
theorem co_Plane_hasQuad : CalOK M_Plane_hasQuad 1 := ⟨g_at 507 (by decide +kernel) rfl, g_at 2 (by decide +kernel) rfl, by decide +kernel, by decide +kernel, by decide +kernel⟩
theorem pn_Plane_hasQuad : plainName M_Plane_hasQuad.1.cls = true := by decide +kernel
def M_Plane_hasMap : pM := (⟨"CornerMaps$Plane", "hasMap", "(I)Z"⟩, prog_6_method_4_code, 2, some .boolean)
theorem co_Plane_hasMap : CalOK M_Plane_hasMap 1 := ⟨g_at 571 (by decide +kernel) rfl, g_at 2 (by decide +kernel) rfl, by decide +kernel, by decide +kernel, by decide +kernel⟩
theorem pn_Plane_hasMap : plainName M_Plane_hasMap.1.cls = true := by decide +kernel
def M_Plane_hasPoint : pM := (⟨"CornerMaps$Plane", "hasPoint", "(I)Z"⟩, prog_6_method_5_code, 2, some .boolean)
theorem co_Plane_hasPoint : CalOK M_Plane_hasPoint 1 := ⟨g_at 699 (by decide +kernel) rfl, g_at 2 (by decide +kernel) rfl, by decide +kernel, by decide +kernel, by decide +kernel⟩
theorem pn_Plane_hasPoint : plainName M_Plane_hasPoint.1.cls = true := by decide +kernel
def M_MD_isQuad : pM := (⟨"CornerMapsModel", "isQuad", "(I)Z"⟩, prog_12_method_37_code, 2, some .boolean)
theorem co_MD_isQuad : CalOK M_MD_isQuad 1 := ⟨g_at 1759 (by decide +kernel) rfl, g_at 13 (by decide +kernel) rfl, by decide +kernel, by decide +kernel, by decide +kernel⟩
theorem pn_MD_isQuad : plainName M_MD_isQuad.1.cls = true := by decide +kernel
def M_MD_isMap : pM := (⟨"CornerMapsModel", "isMap", "(I)Z"⟩, prog_12_method_38_code, 2, some .boolean)
theorem co_MD_isMap : CalOK M_MD_isMap 1 := ⟨g_at 1767 (by decide +kernel) rfl, g_at 13 (by decide +kernel) rfl, by decide +kernel, by decide +kernel, by decide +kernel⟩
theorem pn_MD_isMap : plainName M_MD_isMap.1.cls = true := by decide +kernel
def M_MD_isPoint : pM := (⟨"CornerMapsModel", "isPoint", "(I)Z"⟩, prog_12_method_39_code, 2, some .boolean)
theorem co_MD_isPoint : CalOK M_MD_isPoint 1 := ⟨g_at 1778 (by decide +kernel) rfl, g_at 13 (by decide +kernel) rfl, by decide +kernel, by decide +kernel, by decide +kernel⟩
theorem pn_MD_isPoint : plainName M_MD_isPoint.1.cls = true := by decide +kernel
def M_CM_corner : pM := (⟨"CornerMaps", "corner", "(III)I"⟩, prog_1_method_5_code, 4, some .int)
theorem co_CM_corner : CalOK M_CM_corner 3 := ⟨g_at 1440 (by decide +kernel) rfl, g_at 1 (by decide +kernel) rfl, by decide +kernel, by decide +kernel, by decide +kernel⟩
theorem pn_CM_corner : plainName M_CM_corner.1.cls = true := by decide +kernel
def M_MD_corner : pM := (⟨"CornerMapsModel", "corner", "(III)I"⟩, prog_12_method_42_code, 4, some .int)
theorem co_MD_corner : CalOK M_MD_corner 3 := ⟨g_at 1755 (by decide +kernel) rfl, g_at 13 (by decide +kernel) rfl, by decide +kernel, by decide +kernel, by decide +kernel⟩
theorem pn_MD_corner : plainName M_MD_corner.1.cls = true := by decide +kernel
def M_CM_map : pM := (⟨"CornerMaps", "map", "(III)I"⟩, prog_1_method_6_code, 4, some .int)
theorem co_CM_map : CalOK M_CM_map 3 := ⟨g_at 1483 (by decide +kernel) rfl, g_at 1 (by decide +kernel) rfl, by decide +kernel, by decide +kernel, by decide +kernel⟩
theorem pn_CM_map : plainName M_CM_map.1.cls = true := by decide +kernel
def M_MD_map : pM := (⟨"CornerMapsModel", "map", "(III)I"⟩, prog_12_method_43_code, 4, some .int)
theorem co_MD_map : CalOK M_MD_map 3 := ⟨g_at 1763 (by decide +kernel) rfl, g_at 13 (by decide +kernel) rfl, by decide +kernel, by decide +kernel, by decide +kernel⟩
theorem pn_MD_map : plainName M_MD_map.1.cls = true := by decide +kernel
def M_CM_point : pM := (⟨"CornerMaps", "point", "(II)I"⟩, prog_1_method_7_code, 3, some .int)
theorem co_CM_point : CalOK M_CM_point 2 := ⟨g_at 1490 (by decide +kernel) rfl, g_at 1 (by decide +kernel) rfl, by decide +kernel, by decide +kernel, by decide +kernel⟩
theorem pn_CM_point : plainName M_CM_point.1.cls = true := by decide +kernel
def M_MD_point : pM := (⟨"CornerMapsModel", "point", "(II)I"⟩, prog_12_method_44_code, 3, some .int)
theorem co_MD_point : CalOK M_MD_point 2 := ⟨g_at 1774 (by decide +kernel) rfl, g_at 13 (by decide +kernel) rfl, by decide +kernel, by decide +kernel, by decide +kernel⟩
theorem pn_MD_point : plainName M_MD_point.1.cls = true := by decide +kernel
def M_CM_feed : pM := (⟨"CornerMaps", "feed", "(IIIII)I"⟩, prog_1_method_2_code, 6, some .int)
theorem co_CM_feed : CalOK M_CM_feed 5 := ⟨g_at 324 (by decide +kernel) rfl, g_at 1 (by decide +kernel) rfl, by decide +kernel, by decide +kernel, by decide +kernel⟩
theorem pn_CM_feed : plainName M_CM_feed.1.cls = true := by decide +kernel
def M_MD_feed : pM := (⟨"CornerMapsModel", "feed", "(IIIII)I"⟩, prog_12_method_3_code, 8, some .int)
theorem co_MD_feed : CalOK M_MD_feed 5 := ⟨g_at 1619 (by decide +kernel) rfl, g_at 13 (by decide +kernel) rfl, by decide +kernel, by decide +kernel, by decide +kernel⟩
theorem pn_MD_feed : plainName M_MD_feed.1.cls = true := by decide +kernel
def M_CM_text : pM := (⟨"CornerMaps", "text", "(I)I"⟩, prog_1_method_3_code, 4, some .int)
theorem co_CM_text : CalOK M_CM_text 1 := ⟨g_at 336 (by decide +kernel) rfl, g_at 1 (by decide +kernel) rfl, by decide +kernel, by decide +kernel, by decide +kernel⟩
theorem pn_CM_text : plainName M_CM_text.1.cls = true := by decide +kernel
def M_MD_text : pM := (⟨"CornerMapsModel", "text", "(I)I"⟩, prog_12_method_21_code, 3, some .int)
theorem co_MD_text : CalOK M_MD_text 1 := ⟨g_at 1623 (by decide +kernel) rfl, g_at 13 (by decide +kernel) rfl, by decide +kernel, by decide +kernel, by decide +kernel⟩
theorem pn_MD_text : plainName M_MD_text.1.cls = true := by decide +kernel
def M_CM_fault : pM := (⟨"CornerMaps", "fault", "(I)I"⟩, prog_1_method_4_code, 2, some .int)
theorem co_CM_fault : CalOK M_CM_fault 1 := ⟨g_at 499 (by decide +kernel) rfl, g_at 1 (by decide +kernel) rfl, by decide +kernel, by decide +kernel, by decide +kernel⟩
theorem pn_CM_fault : plainName M_CM_fault.1.cls = true := by decide +kernel
def M_MD_fault : pM := (⟨"CornerMapsModel", "fault", "(I)I"⟩, prog_12_method_22_code, 2, some .int)
theorem co_MD_fault : CalOK M_MD_fault 1 := ⟨g_at 1751 (by decide +kernel) rfl, g_at 13 (by decide +kernel) rfl, by decide +kernel, by decide +kernel, by decide +kernel⟩
theorem pn_MD_fault : plainName M_MD_fault.1.cls = true := by decide +kernel
def M_CM_shape : pM := (⟨"CornerMaps", "shape", "(I)I"⟩, prog_1_method_8_code, 2, some .int)
theorem co_CM_shape : CalOK M_CM_shape 1 := ⟨g_at 503 (by decide +kernel) rfl, g_at 1 (by decide +kernel) rfl, by decide +kernel, by decide +kernel, by decide +kernel⟩
theorem pn_CM_shape : plainName M_CM_shape.1.cls = true := by decide +kernel
def M_MD_shape : pM := (⟨"CornerMapsModel", "shape", "(I)I"⟩, prog_12_method_48_code, 2, some .int)
theorem co_MD_shape : CalOK M_MD_shape 1 := ⟨g_at 1786 (by decide +kernel) rfl, g_at 13 (by decide +kernel) rfl, by decide +kernel, by decide +kernel, by decide +kernel⟩
theorem pn_MD_shape : plainName M_MD_shape.1.cls = true := by decide +kernel
def M_CM_dent : pM := (⟨"CornerMaps", "dent", "(I)I"⟩, prog_1_method_9_code, 5, some .int)
theorem co_CM_dent : CalOK M_CM_dent 1 := ⟨g_at 524 (by decide +kernel) rfl, g_at 1 (by decide +kernel) rfl, by decide +kernel, by decide +kernel, by decide +kernel⟩
theorem pn_CM_dent : plainName M_CM_dent.1.cls = true := by decide +kernel
def M_MD_dent : pM := (⟨"CornerMapsModel", "dent", "(I)I"⟩, prog_12_method_49_code, 2, some .int)
theorem co_MD_dent : CalOK M_MD_dent 1 := ⟨g_at 1802 (by decide +kernel) rfl, g_at 13 (by decide +kernel) rfl, by decide +kernel, by decide +kernel, by decide +kernel⟩
theorem pn_MD_dent : plainName M_MD_dent.1.cls = true := by decide +kernel
def M_CM_area : pM := (⟨"CornerMaps", "area", "(I)I"⟩, prog_1_method_10_code, 2, some .int)
theorem co_CM_area : CalOK M_CM_area 1 := ⟨g_at 529 (by decide +kernel) rfl, g_at 1 (by decide +kernel) rfl, by decide +kernel, by decide +kernel, by decide +kernel⟩
theorem pn_CM_area : plainName M_CM_area.1.cls = true := by decide +kernel
def M_MD_area : pM := (⟨"CornerMapsModel", "area", "(I)I"⟩, prog_12_method_50_code, 2, some .int)
theorem co_MD_area : CalOK M_MD_area 1 := ⟨g_at 1806 (by decide +kernel) rfl, g_at 13 (by decide +kernel) rfl, by decide +kernel, by decide +kernel, by decide +kernel⟩
theorem pn_MD_area : plainName M_MD_area.1.cls = true := by decide +kernel
def M_CM_make : pM := (⟨"CornerMaps", "make", "(II)I"⟩, prog_1_method_11_code, 3, some .int)
theorem co_CM_make : CalOK M_CM_make 2 := ⟨g_at 538 (by decide +kernel) rfl, g_at 1 (by decide +kernel) rfl, by decide +kernel, by decide +kernel, by decide +kernel⟩
theorem pn_CM_make : plainName M_CM_make.1.cls = true := by decide +kernel
def M_MD_make : pM := (⟨"CornerMapsModel", "make", "(II)I"⟩, prog_12_method_54_code, 3, some .int)
theorem co_MD_make : CalOK M_MD_make 2 := ⟨g_at 1815 (by decide +kernel) rfl, g_at 13 (by decide +kernel) rfl, by decide +kernel, by decide +kernel, by decide +kernel⟩
theorem pn_MD_make : plainName M_MD_make.1.cls = true := by decide +kernel
def M_CM_square : pM := (⟨"CornerMaps", "square", "(II)I"⟩, prog_1_method_12_code, 3, some .int)
theorem co_CM_square : CalOK M_CM_square 2 := ⟨g_at 557 (by decide +kernel) rfl, g_at 1 (by decide +kernel) rfl, by decide +kernel, by decide +kernel, by decide +kernel⟩
theorem pn_CM_square : plainName M_CM_square.1.cls = true := by decide +kernel
def M_MD_square : pM := (⟨"CornerMapsModel", "square", "(II)I"⟩, prog_12_method_55_code, 4, some .int)
theorem co_MD_square : CalOK M_MD_square 2 := ⟨g_at 1828 (by decide +kernel) rfl, g_at 13 (by decide +kernel) rfl, by decide +kernel, by decide +kernel, by decide +kernel⟩
theorem pn_MD_square : plainName M_MD_square.1.cls = true := by decide +kernel
def M_CM_product : pM := (⟨"CornerMaps", "product", "(II)I"⟩, prog_1_method_13_code, 3, some .int)
theorem co_CM_product : CalOK M_CM_product 2 := ⟨g_at 567 (by decide +kernel) rfl, g_at 1 (by decide +kernel) rfl, by decide +kernel, by decide +kernel, by decide +kernel⟩
theorem pn_CM_product : plainName M_CM_product.1.cls = true := by decide +kernel
def M_MD_product : pM := (⟨"CornerMapsModel", "product", "(II)I"⟩, prog_12_method_57_code, 3, some .int)
theorem co_MD_product : CalOK M_MD_product 2 := ⟨g_at 1832 (by decide +kernel) rfl, g_at 13 (by decide +kernel) rfl, by decide +kernel, by decide +kernel, by decide +kernel⟩
theorem pn_MD_product : plainName M_MD_product.1.cls = true := by decide +kernel
def M_CM_inverse : pM := (⟨"CornerMaps", "inverse", "(I)I"⟩, prog_1_method_14_code, 2, some .int)
theorem co_CM_inverse : CalOK M_CM_inverse 1 := ⟨g_at 576 (by decide +kernel) rfl, g_at 1 (by decide +kernel) rfl, by decide +kernel, by decide +kernel, by decide +kernel⟩
theorem pn_CM_inverse : plainName M_CM_inverse.1.cls = true := by decide +kernel
def M_MD_inverse : pM := (⟨"CornerMapsModel", "inverse", "(I)I"⟩, prog_12_method_59_code, 2, some .int)
theorem co_MD_inverse : CalOK M_MD_inverse 1 := ⟨g_at 1844 (by decide +kernel) rfl, g_at 13 (by decide +kernel) rfl, by decide +kernel, by decide +kernel, by decide +kernel⟩
theorem pn_MD_inverse : plainName M_MD_inverse.1.cls = true := by decide +kernel
def M_CM_power : pM := (⟨"CornerMaps", "power", "(II)I"⟩, prog_1_method_15_code, 4, some .int)
theorem co_CM_power : CalOK M_CM_power 2 := ⟨g_at 581 (by decide +kernel) rfl, g_at 1 (by decide +kernel) rfl, by decide +kernel, by decide +kernel, by decide +kernel⟩
theorem pn_CM_power : plainName M_CM_power.1.cls = true := by decide +kernel
def M_MD_power : pM := (⟨"CornerMapsModel", "power", "(II)I"⟩, prog_12_method_61_code, 4, some .int)
theorem co_MD_power : CalOK M_MD_power 2 := ⟨g_at 1852 (by decide +kernel) rfl, g_at 13 (by decide +kernel) rfl, by decide +kernel, by decide +kernel, by decide +kernel⟩
theorem pn_MD_power : plainName M_MD_power.1.cls = true := by decide +kernel
def M_CM_drop : pM := (⟨"CornerMaps", "drop", "(I)I"⟩, prog_1_method_16_code, 2, some .int)
theorem co_CM_drop : CalOK M_CM_drop 1 := ⟨g_at 592 (by decide +kernel) rfl, g_at 1 (by decide +kernel) rfl, by decide +kernel, by decide +kernel, by decide +kernel⟩
theorem pn_CM_drop : plainName M_CM_drop.1.cls = true := by decide +kernel
def M_MD_drop : pM := (⟨"CornerMapsModel", "drop", "(I)I"⟩, prog_12_method_62_code, 3, some .int)
theorem co_MD_drop : CalOK M_MD_drop 1 := ⟨g_at 1864 (by decide +kernel) rfl, g_at 13 (by decide +kernel) rfl, by decide +kernel, by decide +kernel, by decide +kernel⟩
theorem pn_MD_drop : plainName M_MD_drop.1.cls = true := by decide +kernel
def M_CM_tell : pM := (⟨"CornerMaps", "tell", "(III)I"⟩, prog_1_method_17_code, 4, some .int)
theorem co_CM_tell : CalOK M_CM_tell 3 := ⟨g_at 606 (by decide +kernel) rfl, g_at 1 (by decide +kernel) rfl, by decide +kernel, by decide +kernel, by decide +kernel⟩
theorem pn_CM_tell : plainName M_CM_tell.1.cls = true := by decide +kernel
def M_CM_areNumbers : pM := (⟨"CornerMaps", "areNumbers", "(III)Z"⟩, prog_1_method_79_code, 3, some .boolean)
theorem co_CM_areNumbers : CalOK M_CM_areNumbers 3 := ⟨g_at 609 (by decide +kernel) rfl, g_at 1 (by decide +kernel) rfl, by decide +kernel, by decide +kernel, by decide +kernel⟩
theorem pn_CM_areNumbers : plainName M_CM_areNumbers.1.cls = true := by decide +kernel
def M_CM_isNumber : pM := (⟨"CornerMaps", "isNumber", "(I)Z"⟩, prog_1_method_78_code, 1, some .boolean)
theorem co_CM_isNumber : CalOK M_CM_isNumber 1 := ⟨g_at 612 (by decide +kernel) rfl, g_at 1 (by decide +kernel) rfl, by decide +kernel, by decide +kernel, by decide +kernel⟩
theorem pn_CM_isNumber : plainName M_CM_isNumber.1.cls = true := by decide +kernel
def M_MD_tell : pM := (⟨"CornerMapsModel", "tell", "(III)I"⟩, prog_12_method_64_code, 5, some .int)
theorem co_MD_tell : CalOK M_MD_tell 3 := ⟨g_at 1868 (by decide +kernel) rfl, g_at 13 (by decide +kernel) rfl, by decide +kernel, by decide +kernel, by decide +kernel⟩
theorem pn_MD_tell : plainName M_MD_tell.1.cls = true := by decide +kernel
def M_MD_isEdge : pM := (⟨"CornerMapsModel", "isEdge", "(I)Z"⟩, prog_12_method_63_code, 1, some .boolean)
theorem co_MD_isEdge : CalOK M_MD_isEdge 1 := ⟨g_at 1871 (by decide +kernel) rfl, g_at 13 (by decide +kernel) rfl, by decide +kernel, by decide +kernel, by decide +kernel⟩
theorem pn_MD_isEdge : plainName M_MD_isEdge.1.cls = true := by decide +kernel
def M_CM_moves : pM := (⟨"CornerMaps", "moves", "(I)I"⟩, prog_1_method_18_code, 3, some .int)
theorem co_CM_moves : CalOK M_CM_moves 1 := ⟨g_at 625 (by decide +kernel) rfl, g_at 1 (by decide +kernel) rfl, by decide +kernel, by decide +kernel, by decide +kernel⟩
theorem pn_CM_moves : plainName M_CM_moves.1.cls = true := by decide +kernel
def M_MD_moves : pM := (⟨"CornerMapsModel", "moves", "(I)I"⟩, prog_12_method_67_code, 5, some .int)
theorem co_MD_moves : CalOK M_MD_moves 1 := ⟨g_at 1876 (by decide +kernel) rfl, g_at 13 (by decide +kernel) rfl, by decide +kernel, by decide +kernel, by decide +kernel⟩
theorem pn_MD_moves : plainName M_MD_moves.1.cls = true := by decide +kernel
def M_CM_undo : pM := (⟨"CornerMaps", "undo", "()I"⟩, prog_1_method_19_code, 1, some .int)
theorem co_CM_undo : CalOK M_CM_undo 0 := ⟨g_at 649 (by decide +kernel) rfl, g_at 1 (by decide +kernel) rfl, by decide +kernel, by decide +kernel, by decide +kernel⟩
theorem pn_CM_undo : plainName M_CM_undo.1.cls = true := by decide +kernel
def M_MD_undo : pM := (⟨"CornerMapsModel", "undo", "()I"⟩, prog_12_method_52_code, 2, some .int)
theorem co_MD_undo : CalOK M_MD_undo 0 := ⟨g_at 1811 (by decide +kernel) rfl, g_at 13 (by decide +kernel) rfl, by decide +kernel, by decide +kernel, by decide +kernel⟩
theorem pn_MD_undo : plainName M_MD_undo.1.cls = true := by decide +kernel
def M_CM_image : pM := (⟨"CornerMaps", "image", "(IIIII)J"⟩, prog_1_method_20_code, 6, some .long)
theorem co_CM_image : CalOK M_CM_image 5 := ⟨g_at 662 (by decide +kernel) rfl, g_at 1 (by decide +kernel) rfl, by decide +kernel, by decide +kernel, by decide +kernel⟩
theorem pn_CM_image : plainName M_CM_image.1.cls = true := by decide +kernel
def M_MD_image : pM := (⟨"CornerMapsModel", "image", "(IIIII)J"⟩, prog_12_method_69_code, 6, some .long)
theorem co_MD_image : CalOK M_MD_image 5 := ⟨g_at 1889 (by decide +kernel) rfl, g_at 13 (by decide +kernel) rfl, by decide +kernel, by decide +kernel, by decide +kernel⟩
theorem pn_MD_image : plainName M_MD_image.1.cls = true := by decide +kernel
def M_CM_before : pM := (⟨"CornerMaps", "before", "(IIIII)J"⟩, prog_1_method_21_code, 6, some .long)
theorem co_CM_before : CalOK M_CM_before 5 := ⟨g_at 673 (by decide +kernel) rfl, g_at 1 (by decide +kernel) rfl, by decide +kernel, by decide +kernel, by decide +kernel⟩
theorem pn_CM_before : plainName M_CM_before.1.cls = true := by decide +kernel
def M_MD_before : pM := (⟨"CornerMapsModel", "before", "(IIIII)J"⟩, prog_12_method_70_code, 6, some .long)
theorem co_MD_before : CalOK M_MD_before 5 := ⟨g_at 1897 (by decide +kernel) rfl, g_at 13 (by decide +kernel) rfl, by decide +kernel, by decide +kernel, by decide +kernel⟩
theorem pn_MD_before : plainName M_MD_before.1.cls = true := by decide +kernel
def M_CM_line : pM := (⟨"CornerMaps", "line", "(IIIII)J"⟩, prog_1_method_22_code, 6, some .long)
theorem co_CM_line : CalOK M_CM_line 5 := ⟨g_at 678 (by decide +kernel) rfl, g_at 1 (by decide +kernel) rfl, by decide +kernel, by decide +kernel, by decide +kernel⟩
theorem pn_CM_line : plainName M_CM_line.1.cls = true := by decide +kernel
def M_MD_line : pM := (⟨"CornerMapsModel", "line", "(IIIII)J"⟩, prog_12_method_71_code, 6, some .long)
theorem co_MD_line : CalOK M_MD_line 5 := ⟨g_at 1902 (by decide +kernel) rfl, g_at 13 (by decide +kernel) rfl, by decide +kernel, by decide +kernel, by decide +kernel⟩
theorem pn_MD_line : plainName M_MD_line.1.cls = true := by decide +kernel
def M_CM_horizon : pM := (⟨"CornerMaps", "horizon", "(II)J"⟩, prog_1_method_23_code, 3, some .long)
theorem co_CM_horizon : CalOK M_CM_horizon 2 := ⟨g_at 685 (by decide +kernel) rfl, g_at 1 (by decide +kernel) rfl, by decide +kernel, by decide +kernel, by decide +kernel⟩
theorem pn_CM_horizon : plainName M_CM_horizon.1.cls = true := by decide +kernel
def M_MD_horizon : pM := (⟨"CornerMapsModel", "horizon", "(II)J"⟩, prog_12_method_72_code, 3, some .long)
theorem co_MD_horizon : CalOK M_MD_horizon 2 := ⟨g_at 1906 (by decide +kernel) rfl, g_at 13 (by decide +kernel) rfl, by decide +kernel, by decide +kernel, by decide +kernel⟩
theorem pn_MD_horizon : plainName M_MD_horizon.1.cls = true := by decide +kernel
def M_CM_vanishing : pM := (⟨"CornerMaps", "vanishing", "(II)J"⟩, prog_1_method_24_code, 3, some .long)
theorem co_CM_vanishing : CalOK M_CM_vanishing 2 := ⟨g_at 691 (by decide +kernel) rfl, g_at 1 (by decide +kernel) rfl, by decide +kernel, by decide +kernel, by decide +kernel⟩
theorem pn_CM_vanishing : plainName M_CM_vanishing.1.cls = true := by decide +kernel
def M_MD_vanishing : pM := (⟨"CornerMapsModel", "vanishing", "(II)J"⟩, prog_12_method_73_code, 3, some .long)
theorem co_MD_vanishing : CalOK M_MD_vanishing 2 := ⟨g_at 1910 (by decide +kernel) rfl, g_at 13 (by decide +kernel) rfl, by decide +kernel, by decide +kernel, by decide +kernel⟩
theorem pn_MD_vanishing : plainName M_MD_vanishing.1.cls = true := by decide +kernel
def M_CM_cut : pM := (⟨"CornerMaps", "cut", "(III)I"⟩, prog_1_method_25_code, 4, some .int)
theorem co_CM_cut : CalOK M_CM_cut 3 := ⟨g_at 695 (by decide +kernel) rfl, g_at 1 (by decide +kernel) rfl, by decide +kernel, by decide +kernel, by decide +kernel⟩
theorem pn_CM_cut : plainName M_CM_cut.1.cls = true := by decide +kernel
def M_MD_cut : pM := (⟨"CornerMapsModel", "cut", "(III)I"⟩, prog_12_method_75_code, 5, some .int)
theorem co_MD_cut : CalOK M_MD_cut 3 := ⟨g_at 1914 (by decide +kernel) rfl, g_at 13 (by decide +kernel) rfl, by decide +kernel, by decide +kernel, by decide +kernel⟩
theorem pn_MD_cut : plainName M_MD_cut.1.cls = true := by decide +kernel
def M_CM_cutSides : pM := (⟨"CornerMaps", "cutSides", "(II)I"⟩, prog_1_method_26_code, 6, some .int)
theorem co_CM_cutSides : CalOK M_CM_cutSides 2 := ⟨g_at 716 (by decide +kernel) rfl, g_at 1 (by decide +kernel) rfl, by decide +kernel, by decide +kernel, by decide +kernel⟩
theorem pn_CM_cutSides : plainName M_CM_cutSides.1.cls = true := by decide +kernel
def M_MD_cutSides : pM := (⟨"CornerMapsModel", "cutSides", "(II)I"⟩, prog_12_method_77_code, 5, some .int)
theorem co_MD_cutSides : CalOK M_MD_cutSides 2 := ⟨g_at 1925 (by decide +kernel) rfl, g_at 13 (by decide +kernel) rfl, by decide +kernel, by decide +kernel, by decide +kernel⟩
theorem pn_MD_cutSides : plainName M_MD_cutSides.1.cls = true := by decide +kernel
def M_CM_kind : pM := (⟨"CornerMaps", "kind", "(I)I"⟩, prog_1_method_27_code, 2, some .int)
theorem co_CM_kind : CalOK M_CM_kind 1 := ⟨g_at 720 (by decide +kernel) rfl, g_at 1 (by decide +kernel) rfl, by decide +kernel, by decide +kernel, by decide +kernel⟩
theorem pn_CM_kind : plainName M_CM_kind.1.cls = true := by decide +kernel
def M_MD_kind : pM := (⟨"CornerMapsModel", "kind", "(I)I"⟩, prog_12_method_79_code, 2, some .int)
theorem co_MD_kind : CalOK M_MD_kind 1 := ⟨g_at 1937 (by decide +kernel) rfl, g_at 13 (by decide +kernel) rfl, by decide +kernel, by decide +kernel, by decide +kernel⟩
theorem pn_MD_kind : plainName M_MD_kind.1.cls = true := by decide +kernel
def M_CM_turn : pM := (⟨"CornerMaps", "turn", "(I)I"⟩, prog_1_method_28_code, 3, some .int)
theorem co_CM_turn : CalOK M_CM_turn 1 := ⟨g_at 727 (by decide +kernel) rfl, g_at 1 (by decide +kernel) rfl, by decide +kernel, by decide +kernel, by decide +kernel⟩
theorem pn_CM_turn : plainName M_CM_turn.1.cls = true := by decide +kernel
def M_MD_turn : pM := (⟨"CornerMapsModel", "turn", "(I)I"⟩, prog_12_method_81_code, 3, some .int)
theorem co_MD_turn : CalOK M_MD_turn 1 := ⟨g_at 1949 (by decide +kernel) rfl, g_at 13 (by decide +kernel) rfl, by decide +kernel, by decide +kernel, by decide +kernel⟩
theorem pn_MD_turn : plainName M_MD_turn.1.cls = true := by decide +kernel
def M_CM_order : pM := (⟨"CornerMaps", "order", "(I)I"⟩, prog_1_method_29_code, 3, some .int)
theorem co_CM_order : CalOK M_CM_order 1 := ⟨g_at 736 (by decide +kernel) rfl, g_at 1 (by decide +kernel) rfl, by decide +kernel, by decide +kernel, by decide +kernel⟩
theorem pn_CM_order : plainName M_CM_order.1.cls = true := by decide +kernel
def M_MD_order : pM := (⟨"CornerMapsModel", "order", "(I)I"⟩, prog_12_method_82_code, 3, some .int)
theorem co_MD_order : CalOK M_MD_order 1 := ⟨g_at 1954 (by decide +kernel) rfl, g_at 13 (by decide +kernel) rfl, by decide +kernel, by decide +kernel, by decide +kernel⟩
theorem pn_MD_order : plainName M_MD_order.1.cls = true := by decide +kernel
def M_CM_same : pM := (⟨"CornerMaps", "same", "(II)I"⟩, prog_1_method_30_code, 3, some .int)
theorem co_CM_same : CalOK M_CM_same 2 := ⟨g_at 743 (by decide +kernel) rfl, g_at 1 (by decide +kernel) rfl, by decide +kernel, by decide +kernel, by decide +kernel⟩
theorem pn_CM_same : plainName M_CM_same.1.cls = true := by decide +kernel
def M_MD_same : pM := (⟨"CornerMapsModel", "same", "(II)I"⟩, prog_12_method_83_code, 3, some .int)
theorem co_MD_same : CalOK M_MD_same 2 := ⟨g_at 1958 (by decide +kernel) rfl, g_at 13 (by decide +kernel) rfl, by decide +kernel, by decide +kernel, by decide +kernel⟩
theorem pn_MD_same : plainName M_MD_same.1.cls = true := by decide +kernel
def M_CM_commute : pM := (⟨"CornerMaps", "commute", "(II)I"⟩, prog_1_method_31_code, 3, some .int)
theorem co_CM_commute : CalOK M_CM_commute 2 := ⟨g_at 747 (by decide +kernel) rfl, g_at 1 (by decide +kernel) rfl, by decide +kernel, by decide +kernel, by decide +kernel⟩
theorem pn_CM_commute : plainName M_CM_commute.1.cls = true := by decide +kernel
def M_MD_commute : pM := (⟨"CornerMapsModel", "commute", "(II)I"⟩, prog_12_method_85_code, 5, some .int)
theorem co_MD_commute : CalOK M_MD_commute 2 := ⟨g_at 1966 (by decide +kernel) rfl, g_at 13 (by decide +kernel) rfl, by decide +kernel, by decide +kernel, by decide +kernel⟩
theorem pn_MD_commute : plainName M_MD_commute.1.cls = true := by decide +kernel
def M_CM_undoes : pM := (⟨"CornerMaps", "undoes", "(II)I"⟩, prog_1_method_32_code, 3, some .int)
theorem co_CM_undoes : CalOK M_CM_undoes 2 := ⟨g_at 755 (by decide +kernel) rfl, g_at 1 (by decide +kernel) rfl, by decide +kernel, by decide +kernel, by decide +kernel⟩
theorem pn_CM_undoes : plainName M_CM_undoes.1.cls = true := by decide +kernel
def M_MD_undoes : pM := (⟨"CornerMapsModel", "undoes", "(II)I"⟩, prog_12_method_86_code, 3, some .int)
theorem co_MD_undoes : CalOK M_MD_undoes 2 := ⟨g_at 1970 (by decide +kernel) rfl, g_at 13 (by decide +kernel) rfl, by decide +kernel, by decide +kernel, by decide +kernel⟩
theorem pn_MD_undoes : plainName M_MD_undoes.1.cls = true := by decide +kernel
def M_CM_stays : pM := (⟨"CornerMaps", "stays", "(II)I"⟩, prog_1_method_33_code, 3, some .int)
theorem co_CM_stays : CalOK M_CM_stays 2 := ⟨g_at 763 (by decide +kernel) rfl, g_at 1 (by decide +kernel) rfl, by decide +kernel, by decide +kernel, by decide +kernel⟩
theorem pn_CM_stays : plainName M_CM_stays.1.cls = true := by decide +kernel
def M_MD_stays : pM := (⟨"CornerMapsModel", "stays", "(II)I"⟩, prog_12_method_88_code, 3, some .int)
theorem co_MD_stays : CalOK M_MD_stays 2 := ⟨g_at 1974 (by decide +kernel) rfl, g_at 13 (by decide +kernel) rfl, by decide +kernel, by decide +kernel, by decide +kernel⟩
theorem pn_MD_stays : plainName M_MD_stays.1.cls = true := by decide +kernel
def M_CM_points : pM := (⟨"CornerMaps", "points", "(II)I"⟩, prog_1_method_34_code, 5, some .int)
theorem co_CM_points : CalOK M_CM_points 2 := ⟨g_at 771 (by decide +kernel) rfl, g_at 1 (by decide +kernel) rfl, by decide +kernel, by decide +kernel, by decide +kernel⟩
theorem pn_CM_points : plainName M_CM_points.1.cls = true := by decide +kernel
def M_MD_points : pM := (⟨"CornerMapsModel", "points", "(II)I"⟩, prog_12_method_89_code, 8, some .int)
theorem co_MD_points : CalOK M_MD_points 2 := ⟨g_at 1982 (by decide +kernel) rfl, g_at 13 (by decide +kernel) rfl, by decide +kernel, by decide +kernel, by decide +kernel⟩
theorem pn_MD_points : plainName M_MD_points.1.cls = true := by decide +kernel
def M_CM_join : pM := (⟨"CornerMaps", "join", "(III)J"⟩, prog_1_method_35_code, 4, some .long)
theorem co_CM_join : CalOK M_CM_join 3 := ⟨g_at 780 (by decide +kernel) rfl, g_at 1 (by decide +kernel) rfl, by decide +kernel, by decide +kernel, by decide +kernel⟩
theorem pn_CM_join : plainName M_CM_join.1.cls = true := by decide +kernel
def M_MD_join : pM := (⟨"CornerMapsModel", "join", "(III)J"⟩, prog_12_method_93_code, 4, some .long)
theorem co_MD_join : CalOK M_MD_join 3 := ⟨g_at 1986 (by decide +kernel) rfl, g_at 13 (by decide +kernel) rfl, by decide +kernel, by decide +kernel, by decide +kernel⟩
theorem pn_MD_join : plainName M_MD_join.1.cls = true := by decide +kernel
def M_CM_inLine : pM := (⟨"CornerMaps", "inLine", "(III)I"⟩, prog_1_method_36_code, 4, some .int)
theorem co_CM_inLine : CalOK M_CM_inLine 3 := ⟨g_at 788 (by decide +kernel) rfl, g_at 1 (by decide +kernel) rfl, by decide +kernel, by decide +kernel, by decide +kernel⟩
theorem pn_CM_inLine : plainName M_CM_inLine.1.cls = true := by decide +kernel
def M_MD_inLine : pM := (⟨"CornerMapsModel", "inLine", "(III)I"⟩, prog_12_method_95_code, 4, some .int)
theorem co_MD_inLine : CalOK M_MD_inLine 3 := ⟨g_at 2001 (by decide +kernel) rfl, g_at 13 (by decide +kernel) rfl, by decide +kernel, by decide +kernel, by decide +kernel⟩
theorem pn_MD_inLine : plainName M_MD_inLine.1.cls = true := by decide +kernel
def M_CM_meet : pM := (⟨"CornerMaps", "meet", "(IIIII)J"⟩, prog_1_method_37_code, 7, some .long)
theorem co_CM_meet : CalOK M_CM_meet 5 := ⟨g_at 797 (by decide +kernel) rfl, g_at 1 (by decide +kernel) rfl, by decide +kernel, by decide +kernel, by decide +kernel⟩
theorem pn_CM_meet : plainName M_CM_meet.1.cls = true := by decide +kernel
def M_CM_arePoints : pM := (⟨"CornerMaps", "arePoints", "(IIII)Z"⟩, prog_1_method_83_code, 5, some .boolean)
theorem co_CM_arePoints : CalOK M_CM_arePoints 4 := ⟨g_at 801 (by decide +kernel) rfl, g_at 1 (by decide +kernel) rfl, by decide +kernel, by decide +kernel, by decide +kernel⟩
theorem pn_CM_arePoints : plainName M_CM_arePoints.1.cls = true := by decide +kernel
def M_MD_meet : pM := (⟨"CornerMapsModel", "meet", "(IIIII)J"⟩, prog_12_method_96_code, 12, some .long)
theorem co_MD_meet : CalOK M_MD_meet 5 := ⟨g_at 2009 (by decide +kernel) rfl, g_at 13 (by decide +kernel) rfl, by decide +kernel, by decide +kernel, by decide +kernel⟩
theorem pn_MD_meet : plainName M_MD_meet.1.cls = true := by decide +kernel
def M_CM_share : pM := (⟨"CornerMaps", "share", "(IIIII)J"⟩, prog_1_method_38_code, 11, some .long)
theorem co_CM_share : CalOK M_CM_share 5 := ⟨g_at 805 (by decide +kernel) rfl, g_at 1 (by decide +kernel) rfl, by decide +kernel, by decide +kernel, by decide +kernel⟩
theorem pn_CM_share : plainName M_CM_share.1.cls = true := by decide +kernel
def M_MD_share : pM := (⟨"CornerMapsModel", "share", "(IIIII)J"⟩, prog_12_method_100_code, 12, some .long)
theorem co_MD_share : CalOK M_MD_share 5 := ⟨g_at 2013 (by decide +kernel) rfl, g_at 13 (by decide +kernel) rfl, by decide +kernel, by decide +kernel, by decide +kernel⟩
theorem pn_MD_share : plainName M_MD_share.1.cls = true := by decide +kernel
def M_CM_fourth : pM := (⟨"CornerMaps", "fourth", "(IIII)J"⟩, prog_1_method_39_code, 11, some .long)
theorem co_CM_fourth : CalOK M_CM_fourth 4 := ⟨g_at 831 (by decide +kernel) rfl, g_at 1 (by decide +kernel) rfl, by decide +kernel, by decide +kernel, by decide +kernel⟩
theorem pn_CM_fourth : plainName M_CM_fourth.1.cls = true := by decide +kernel
def M_MD_fourth : pM := (⟨"CornerMapsModel", "fourth", "(IIII)J"⟩, prog_12_method_101_code, 9, some .long)
theorem co_MD_fourth : CalOK M_MD_fourth 4 := ⟨g_at 2029 (by decide +kernel) rfl, g_at 13 (by decide +kernel) rfl, by decide +kernel, by decide +kernel, by decide +kernel⟩
theorem pn_MD_fourth : plainName M_MD_fourth.1.cls = true := by decide +kernel
def M_CM_track : pM := (⟨"CornerMaps", "track", "(IIII)J"⟩, prog_1_method_40_code, 5, some .long)
theorem co_CM_track : CalOK M_CM_track 4 := ⟨g_at 836 (by decide +kernel) rfl, g_at 1 (by decide +kernel) rfl, by decide +kernel, by decide +kernel, by decide +kernel⟩
theorem pn_CM_track : plainName M_CM_track.1.cls = true := by decide +kernel
def M_MD_track : pM := (⟨"CornerMapsModel", "track", "(IIII)J"⟩, prog_12_method_105_code, 5, some .long)
theorem co_MD_track : CalOK M_MD_track 4 := ⟨g_at 2033 (by decide +kernel) rfl, g_at 13 (by decide +kernel) rfl, by decide +kernel, by decide +kernel, by decide +kernel⟩
theorem pn_MD_track : plainName M_MD_track.1.cls = true := by decide +kernel
def M_CM_cycle : pM := (⟨"CornerMaps", "cycle", "(II)I"⟩, prog_1_method_41_code, 4, some .int)
theorem co_CM_cycle : CalOK M_CM_cycle 2 := ⟨g_at 848 (by decide +kernel) rfl, g_at 1 (by decide +kernel) rfl, by decide +kernel, by decide +kernel, by decide +kernel⟩
theorem pn_CM_cycle : plainName M_CM_cycle.1.cls = true := by decide +kernel
def M_MD_cycle : pM := (⟨"CornerMapsModel", "cycle", "(II)I"⟩, prog_12_method_106_code, 4, some .int)
theorem co_MD_cycle : CalOK M_MD_cycle 2 := ⟨g_at 2045 (by decide +kernel) rfl, g_at 13 (by decide +kernel) rfl, by decide +kernel, by decide +kernel, by decide +kernel⟩
theorem pn_MD_cycle : plainName M_MD_cycle.1.cls = true := by decide +kernel
def M_CM_whole : pM := (⟨"CornerMaps", "whole", "(II)I"⟩, prog_1_method_42_code, 6, some .int)
theorem co_CM_whole : CalOK M_CM_whole 2 := ⟨g_at 852 (by decide +kernel) rfl, g_at 1 (by decide +kernel) rfl, by decide +kernel, by decide +kernel, by decide +kernel⟩
theorem pn_CM_whole : plainName M_CM_whole.1.cls = true := by decide +kernel
def M_MD_whole : pM := (⟨"CornerMapsModel", "whole", "(II)I"⟩, prog_12_method_108_code, 6, some .int)
theorem co_MD_whole : CalOK M_MD_whole 2 := ⟨g_at 2057 (by decide +kernel) rfl, g_at 13 (by decide +kernel) rfl, by decide +kernel, by decide +kernel, by decide +kernel⟩
theorem pn_MD_whole : plainName M_MD_whole.1.cls = true := by decide +kernel
def M_CM_inside : pM := (⟨"CornerMaps", "inside", "(II)I"⟩, prog_1_method_43_code, 4, some .int)
theorem co_CM_inside : CalOK M_CM_inside 2 := ⟨g_at 856 (by decide +kernel) rfl, g_at 1 (by decide +kernel) rfl, by decide +kernel, by decide +kernel, by decide +kernel⟩
theorem pn_CM_inside : plainName M_CM_inside.1.cls = true := by decide +kernel
def M_MD_inside : pM := (⟨"CornerMapsModel", "inside", "(II)I"⟩, prog_12_method_112_code, 14, some .int)
theorem co_MD_inside : CalOK M_MD_inside 2 := ⟨g_at 2061 (by decide +kernel) rfl, g_at 13 (by decide +kernel) rfl, by decide +kernel, by decide +kernel, by decide +kernel⟩
theorem pn_MD_inside : plainName M_MD_inside.1.cls = true := by decide +kernel
def M_CM_crossings : pM := (⟨"CornerMaps", "crossings", "(II)I"⟩, prog_1_method_44_code, 6, some .int)
theorem co_CM_crossings : CalOK M_CM_crossings 2 := ⟨g_at 875 (by decide +kernel) rfl, g_at 1 (by decide +kernel) rfl, by decide +kernel, by decide +kernel, by decide +kernel⟩
theorem pn_CM_crossings : plainName M_CM_crossings.1.cls = true := by decide +kernel
def M_MD_crossings : pM := (⟨"CornerMapsModel", "crossings", "(II)I"⟩, prog_12_method_116_code, 6, some .int)
theorem co_MD_crossings : CalOK M_MD_crossings 2 := ⟨g_at 2078 (by decide +kernel) rfl, g_at 13 (by decide +kernel) rfl, by decide +kernel, by decide +kernel, by decide +kernel⟩
theorem pn_MD_crossings : plainName M_MD_crossings.1.cls = true := by decide +kernel
def M_CM_diagonal : pM := (⟨"CornerMaps", "diagonal", "(III)J"⟩, prog_1_method_45_code, 4, some .long)
theorem co_CM_diagonal : CalOK M_CM_diagonal 3 := ⟨g_at 887 (by decide +kernel) rfl, g_at 1 (by decide +kernel) rfl, by decide +kernel, by decide +kernel, by decide +kernel⟩
theorem pn_CM_diagonal : plainName M_CM_diagonal.1.cls = true := by decide +kernel
def M_MD_diagonal : pM := (⟨"CornerMapsModel", "diagonal", "(III)J"⟩, prog_12_method_119_code, 4, some .long)
theorem co_MD_diagonal : CalOK M_MD_diagonal 3 := ⟨g_at 2094 (by decide +kernel) rfl, g_at 13 (by decide +kernel) rfl, by decide +kernel, by decide +kernel, by decide +kernel⟩
theorem pn_MD_diagonal : plainName M_MD_diagonal.1.cls = true := by decide +kernel
def M_CM_parallel : pM := (⟨"CornerMaps", "parallel", "(II)I"⟩, prog_1_method_46_code, 5, some .int)
theorem co_CM_parallel : CalOK M_CM_parallel 2 := ⟨g_at 897 (by decide +kernel) rfl, g_at 1 (by decide +kernel) rfl, by decide +kernel, by decide +kernel, by decide +kernel⟩
theorem pn_CM_parallel : plainName M_CM_parallel.1.cls = true := by decide +kernel
def M_MD_parallel : pM := (⟨"CornerMapsModel", "parallel", "(II)I"⟩, prog_12_method_120_code, 4, some .int)
theorem co_MD_parallel : CalOK M_MD_parallel 2 := ⟨g_at 2106 (by decide +kernel) rfl, g_at 13 (by decide +kernel) rfl, by decide +kernel, by decide +kernel, by decide +kernel⟩
theorem pn_MD_parallel : plainName M_MD_parallel.1.cls = true := by decide +kernel
def M_CM_shapeBy : pM := (⟨"CornerMaps", "shapeBy", "(II)I"⟩, prog_1_method_47_code, 3, some .int)
theorem co_CM_shapeBy : CalOK M_CM_shapeBy 2 := ⟨g_at 901 (by decide +kernel) rfl, g_at 1 (by decide +kernel) rfl, by decide +kernel, by decide +kernel, by decide +kernel⟩
theorem pn_CM_shapeBy : plainName M_CM_shapeBy.1.cls = true := by decide +kernel
def M_MD_shapeBy : pM := (⟨"CornerMapsModel", "shapeBy", "(II)I"⟩, prog_12_method_122_code, 8, some .int)
theorem co_MD_shapeBy : CalOK M_MD_shapeBy 2 := ⟨g_at 2110 (by decide +kernel) rfl, g_at 13 (by decide +kernel) rfl, by decide +kernel, by decide +kernel, by decide +kernel⟩
theorem pn_MD_shapeBy : plainName M_MD_shapeBy.1.cls = true := by decide +kernel
def M_CM_symmetries : pM := (⟨"CornerMaps", "symmetries", "(II)I"⟩, prog_1_method_48_code, 5, some .int)
theorem co_CM_symmetries : CalOK M_CM_symmetries 2 := ⟨g_at 914 (by decide +kernel) rfl, g_at 1 (by decide +kernel) rfl, by decide +kernel, by decide +kernel, by decide +kernel⟩
theorem pn_CM_symmetries : plainName M_CM_symmetries.1.cls = true := by decide +kernel
def M_MD_symmetries : pM := (⟨"CornerMapsModel", "symmetries", "(II)I"⟩, prog_12_method_125_code, 5, some .int)
theorem co_MD_symmetries : CalOK M_MD_symmetries 2 := ⟨g_at 2122 (by decide +kernel) rfl, g_at 13 (by decide +kernel) rfl, by decide +kernel, by decide +kernel, by decide +kernel⟩
theorem pn_MD_symmetries : plainName M_MD_symmetries.1.cls = true := by decide +kernel
def M_CM_symmetry : pM := (⟨"CornerMaps", "symmetry", "(II)I"⟩, prog_1_method_49_code, 3, some .int)
theorem co_CM_symmetry : CalOK M_CM_symmetry 2 := ⟨g_at 921 (by decide +kernel) rfl, g_at 1 (by decide +kernel) rfl, by decide +kernel, by decide +kernel, by decide +kernel⟩
theorem pn_CM_symmetry : plainName M_CM_symmetry.1.cls = true := by decide +kernel
def M_MD_symmetry : pM := (⟨"CornerMapsModel", "symmetry", "(II)I"⟩, prog_12_method_126_code, 3, some .int)
theorem co_MD_symmetry : CalOK M_MD_symmetry 2 := ⟨g_at 2130 (by decide +kernel) rfl, g_at 13 (by decide +kernel) rfl, by decide +kernel, by decide +kernel, by decide +kernel⟩
theorem pn_MD_symmetry : plainName M_MD_symmetry.1.cls = true := by decide +kernel
def M_CM_word : pM := (⟨"CornerMaps", "word", "(II)I"⟩, prog_1_method_50_code, 4, some .int)
theorem co_CM_word : CalOK M_CM_word 2 := ⟨g_at 925 (by decide +kernel) rfl, g_at 1 (by decide +kernel) rfl, by decide +kernel, by decide +kernel, by decide +kernel⟩
theorem pn_CM_word : plainName M_CM_word.1.cls = true := by decide +kernel
def M_MD_word : pM := (⟨"CornerMapsModel", "word", "(II)I"⟩, prog_12_method_130_code, 3, some .int)
theorem co_MD_word : CalOK M_MD_word 2 := ⟨g_at 2134 (by decide +kernel) rfl, g_at 13 (by decide +kernel) rfl, by decide +kernel, by decide +kernel, by decide +kernel⟩
theorem pn_MD_word : plainName M_MD_word.1.cls = true := by decide +kernel
def M_CM_generated : pM := (⟨"CornerMaps", "generated", "(I)I"⟩, prog_1_method_51_code, 5, some .int)
theorem co_CM_generated : CalOK M_CM_generated 1 := ⟨g_at 962 (by decide +kernel) rfl, g_at 1 (by decide +kernel) rfl, by decide +kernel, by decide +kernel, by decide +kernel⟩
theorem pn_CM_generated : plainName M_CM_generated.1.cls = true := by decide +kernel
def M_MD_generated : pM := (⟨"CornerMapsModel", "generated", "(I)I"⟩, prog_12_method_132_code, 4, some .int)
theorem co_MD_generated : CalOK M_MD_generated 1 := ⟨g_at 2150 (by decide +kernel) rfl, g_at 13 (by decide +kernel) rfl, by decide +kernel, by decide +kernel, by decide +kernel⟩
theorem pn_MD_generated : plainName M_MD_generated.1.cls = true := by decide +kernel
def M_CM_leads : pM := (⟨"CornerMaps", "leads", "(III)I"⟩, prog_1_method_52_code, 5, some .int)
theorem co_CM_leads : CalOK M_CM_leads 3 := ⟨g_at 974 (by decide +kernel) rfl, g_at 1 (by decide +kernel) rfl, by decide +kernel, by decide +kernel, by decide +kernel⟩
theorem pn_CM_leads : plainName M_CM_leads.1.cls = true := by decide +kernel
def M_MD_leads : pM := (⟨"CornerMapsModel", "leads", "(III)I"⟩, prog_12_method_107_code, 5, some .int)
theorem co_MD_leads : CalOK M_MD_leads 3 := ⟨g_at 2053 (by decide +kernel) rfl, g_at 13 (by decide +kernel) rfl, by decide +kernel, by decide +kernel, by decide +kernel⟩
theorem pn_MD_leads : plainName M_MD_leads.1.cls = true := by decide +kernel
def M_CM_pull : pM := (⟨"CornerMaps", "pull", "(IIIII)J"⟩, prog_1_method_53_code, 6, some .long)
theorem co_CM_pull : CalOK M_CM_pull 5 := ⟨g_at 978 (by decide +kernel) rfl, g_at 1 (by decide +kernel) rfl, by decide +kernel, by decide +kernel, by decide +kernel⟩
theorem pn_CM_pull : plainName M_CM_pull.1.cls = true := by decide +kernel
def M_MD_pull : pM := (⟨"CornerMapsModel", "pull", "(IIIII)J"⟩, prog_12_method_136_code, 6, some .long)
theorem co_MD_pull : CalOK M_MD_pull 5 := ⟨g_at 2168 (by decide +kernel) rfl, g_at 13 (by decide +kernel) rfl, by decide +kernel, by decide +kernel, by decide +kernel⟩
theorem pn_MD_pull : plainName M_MD_pull.1.cls = true := by decide +kernel
def M_CM_keepsLine : pM := (⟨"CornerMaps", "keepsLine", "(IIII)I"⟩, prog_1_method_54_code, 5, some .int)
theorem co_CM_keepsLine : CalOK M_CM_keepsLine 4 := ⟨g_at 982 (by decide +kernel) rfl, g_at 1 (by decide +kernel) rfl, by decide +kernel, by decide +kernel, by decide +kernel⟩
theorem pn_CM_keepsLine : plainName M_CM_keepsLine.1.cls = true := by decide +kernel
def M_MD_keepsLine : pM := (⟨"CornerMapsModel", "keepsLine", "(IIII)I"⟩, prog_12_method_137_code, 5, some .int)
theorem co_MD_keepsLine : CalOK M_MD_keepsLine 4 := ⟨g_at 2176 (by decide +kernel) rfl, g_at 13 (by decide +kernel) rfl, by decide +kernel, by decide +kernel, by decide +kernel⟩
theorem pn_MD_keepsLine : plainName M_MD_keepsLine.1.cls = true := by decide +kernel
def M_CM_side : pM := (⟨"CornerMaps", "side", "(III)J"⟩, prog_1_method_55_code, 5, some .long)
theorem co_CM_side : CalOK M_CM_side 3 := ⟨g_at 986 (by decide +kernel) rfl, g_at 1 (by decide +kernel) rfl, by decide +kernel, by decide +kernel, by decide +kernel⟩
theorem pn_CM_side : plainName M_CM_side.1.cls = true := by decide +kernel
def M_MD_side : pM := (⟨"CornerMapsModel", "side", "(III)J"⟩, prog_12_method_138_code, 4, some .long)
theorem co_MD_side : CalOK M_MD_side 3 := ⟨g_at 2180 (by decide +kernel) rfl, g_at 13 (by decide +kernel) rfl, by decide +kernel, by decide +kernel, by decide +kernel⟩
theorem pn_MD_side : plainName M_MD_side.1.cls = true := by decide +kernel
def M_CM_turnOf : pM := (⟨"CornerMaps", "turnOf", "(III)I"⟩, prog_1_method_56_code, 4, some .int)
theorem co_CM_turnOf : CalOK M_CM_turnOf 3 := ⟨g_at 993 (by decide +kernel) rfl, g_at 1 (by decide +kernel) rfl, by decide +kernel, by decide +kernel, by decide +kernel⟩
theorem pn_CM_turnOf : plainName M_CM_turnOf.1.cls = true := by decide +kernel
def M_CM_isFar : pM := (⟨"CornerMaps", "isFar", "(I)Z"⟩, prog_1_method_84_code, 2, some .boolean)
theorem co_CM_isFar : CalOK M_CM_isFar 1 := ⟨g_at 997 (by decide +kernel) rfl, g_at 1 (by decide +kernel) rfl, by decide +kernel, by decide +kernel, by decide +kernel⟩
theorem pn_CM_isFar : plainName M_CM_isFar.1.cls = true := by decide +kernel
def M_MD_turnOf : pM := (⟨"CornerMapsModel", "turnOf", "(III)I"⟩, prog_12_method_140_code, 4, some .int)
theorem co_MD_turnOf : CalOK M_MD_turnOf 3 := ⟨g_at 2184 (by decide +kernel) rfl, g_at 13 (by decide +kernel) rfl, by decide +kernel, by decide +kernel, by decide +kernel⟩
theorem pn_MD_turnOf : plainName M_MD_turnOf.1.cls = true := by decide +kernel
def M_CM_gap : pM := (⟨"CornerMaps", "gap", "(III)J"⟩, prog_1_method_57_code, 12, some .long)
theorem co_CM_gap : CalOK M_CM_gap 3 := ⟨g_at 1002 (by decide +kernel) rfl, g_at 1 (by decide +kernel) rfl, by decide +kernel, by decide +kernel, by decide +kernel⟩
theorem pn_CM_gap : plainName M_CM_gap.1.cls = true := by decide +kernel
def M_MD_gap : pM := (⟨"CornerMapsModel", "gap", "(III)J"⟩, prog_12_method_141_code, 10, some .long)
theorem co_MD_gap : CalOK M_MD_gap 3 := ⟨g_at 2192 (by decide +kernel) rfl, g_at 13 (by decide +kernel) rfl, by decide +kernel, by decide +kernel, by decide +kernel⟩
theorem pn_MD_gap : plainName M_MD_gap.1.cls = true := by decide +kernel
def M_CM_middle : pM := (⟨"CornerMaps", "middle", "(III)J"⟩, prog_1_method_58_code, 10, some .long)
theorem co_CM_middle : CalOK M_CM_middle 3 := ⟨g_at 1007 (by decide +kernel) rfl, g_at 1 (by decide +kernel) rfl, by decide +kernel, by decide +kernel, by decide +kernel⟩
theorem pn_CM_middle : plainName M_CM_middle.1.cls = true := by decide +kernel
def M_MD_middle : pM := (⟨"CornerMapsModel", "middle", "(III)J"⟩, prog_12_method_143_code, 8, some .long)
theorem co_MD_middle : CalOK M_MD_middle 3 := ⟨g_at 2200 (by decide +kernel) rfl, g_at 13 (by decide +kernel) rfl, by decide +kernel, by decide +kernel, by decide +kernel⟩
theorem pn_MD_middle : plainName M_MD_middle.1.cls = true := by decide +kernel
def M_CM_partner : pM := (⟨"CornerMaps", "partner", "(I)I"⟩, prog_1_method_59_code, 3, some .int)
theorem co_CM_partner : CalOK M_CM_partner 1 := ⟨g_at 1012 (by decide +kernel) rfl, g_at 1 (by decide +kernel) rfl, by decide +kernel, by decide +kernel, by decide +kernel⟩
theorem pn_CM_partner : plainName M_CM_partner.1.cls = true := by decide +kernel
def M_MD_partner : pM := (⟨"CornerMapsModel", "partner", "(I)I"⟩, prog_12_method_145_code, 3, some .int)
theorem co_MD_partner : CalOK M_MD_partner 1 := ⟨g_at 2209 (by decide +kernel) rfl, g_at 13 (by decide +kernel) rfl, by decide +kernel, by decide +kernel, by decide +kernel⟩
theorem pn_MD_partner : plainName M_MD_partner.1.cls = true := by decide +kernel
def M_CM_cornerBy : pM := (⟨"CornerMaps", "cornerBy", "(IIII)J"⟩, prog_1_method_60_code, 5, some .long)
theorem co_CM_cornerBy : CalOK M_CM_cornerBy 4 := ⟨g_at 1016 (by decide +kernel) rfl, g_at 1 (by decide +kernel) rfl, by decide +kernel, by decide +kernel, by decide +kernel⟩
theorem pn_CM_cornerBy : plainName M_CM_cornerBy.1.cls = true := by decide +kernel
def M_MD_cornerBy : pM := (⟨"CornerMapsModel", "cornerBy", "(IIII)J"⟩, prog_12_method_152_code, 5, some .long)
theorem co_MD_cornerBy : CalOK M_MD_cornerBy 4 := ⟨g_at 2239 (by decide +kernel) rfl, g_at 13 (by decide +kernel) rfl, by decide +kernel, by decide +kernel, by decide +kernel⟩
theorem pn_MD_cornerBy : plainName M_MD_cornerBy.1.cls = true := by decide +kernel
def M_CM_scale : pM := (⟨"CornerMaps", "scale", "(II)J"⟩, prog_1_method_61_code, 4, some .long)
theorem co_CM_scale : CalOK M_CM_scale 2 := ⟨g_at 1020 (by decide +kernel) rfl, g_at 1 (by decide +kernel) rfl, by decide +kernel, by decide +kernel, by decide +kernel⟩
theorem pn_CM_scale : plainName M_CM_scale.1.cls = true := by decide +kernel
def M_MD_scale : pM := (⟨"CornerMapsModel", "scale", "(II)J"⟩, prog_12_method_144_code, 3, some .long)
theorem co_MD_scale : CalOK M_MD_scale 2 := ⟨g_at 2205 (by decide +kernel) rfl, g_at 13 (by decide +kernel) rfl, by decide +kernel, by decide +kernel, by decide +kernel⟩
theorem pn_MD_scale : plainName M_MD_scale.1.cls = true := by decide +kernel
def M_CM_likeness : pM := (⟨"CornerMaps", "likeness", "(III)I"⟩, prog_1_method_62_code, 8, some .int)
theorem co_CM_likeness : CalOK M_CM_likeness 3 := ⟨g_at 1024 (by decide +kernel) rfl, g_at 1 (by decide +kernel) rfl, by decide +kernel, by decide +kernel, by decide +kernel⟩
theorem pn_CM_likeness : plainName M_CM_likeness.1.cls = true := by decide +kernel
def M_MD_likeness : pM := (⟨"CornerMapsModel", "likeness", "(III)I"⟩, prog_12_method_146_code, 8, some .int)
theorem co_MD_likeness : CalOK M_MD_likeness 3 := ⟨g_at 2213 (by decide +kernel) rfl, g_at 13 (by decide +kernel) rfl, by decide +kernel, by decide +kernel, by decide +kernel⟩
theorem pn_MD_likeness : plainName M_MD_likeness.1.cls = true := by decide +kernel
def M_CM_hits : pM := (⟨"CornerMaps", "hits", "(III)I"⟩, prog_1_method_63_code, 4, some .int)
theorem co_CM_hits : CalOK M_CM_hits 3 := ⟨g_at 1028 (by decide +kernel) rfl, g_at 1 (by decide +kernel) rfl, by decide +kernel, by decide +kernel, by decide +kernel⟩
theorem pn_CM_hits : plainName M_CM_hits.1.cls = true := by decide +kernel
def M_MD_hits : pM := (⟨"CornerMapsModel", "hits", "(III)I"⟩, prog_12_method_154_code, 4, some .int)
theorem co_MD_hits : CalOK M_MD_hits 3 := ⟨g_at 2247 (by decide +kernel) rfl, g_at 13 (by decide +kernel) rfl, by decide +kernel, by decide +kernel, by decide +kernel⟩
theorem pn_MD_hits : plainName M_MD_hits.1.cls = true := by decide +kernel
def M_CM_goesTo : pM := (⟨"CornerMaps", "goesTo", "(II)I"⟩, prog_1_method_64_code, 5, some .int)
theorem co_CM_goesTo : CalOK M_CM_goesTo 2 := ⟨g_at 1041 (by decide +kernel) rfl, g_at 1 (by decide +kernel) rfl, by decide +kernel, by decide +kernel, by decide +kernel⟩
theorem pn_CM_goesTo : plainName M_CM_goesTo.1.cls = true := by decide +kernel
def M_MD_goesTo : pM := (⟨"CornerMapsModel", "goesTo", "(II)I"⟩, prog_12_method_155_code, 5, some .int)
theorem co_MD_goesTo : CalOK M_MD_goesTo 2 := ⟨g_at 2255 (by decide +kernel) rfl, g_at 13 (by decide +kernel) rfl, by decide +kernel, by decide +kernel, by decide +kernel⟩
theorem pn_MD_goesTo : plainName M_MD_goesTo.1.cls = true := by decide +kernel
def M_CM_farthest : pM := (⟨"CornerMaps", "farthest", "(I)J"⟩, prog_1_method_65_code, 5, some .long)
theorem co_CM_farthest : CalOK M_CM_farthest 1 := ⟨g_at 1045 (by decide +kernel) rfl, g_at 1 (by decide +kernel) rfl, by decide +kernel, by decide +kernel, by decide +kernel⟩
theorem pn_CM_farthest : plainName M_CM_farthest.1.cls = true := by decide +kernel
def M_MD_farthest : pM := (⟨"CornerMapsModel", "farthest", "(I)J"⟩, prog_12_method_156_code, 6, some .long)
theorem co_MD_farthest : CalOK M_MD_farthest 1 := ⟨g_at 2259 (by decide +kernel) rfl, g_at 13 (by decide +kernel) rfl, by decide +kernel, by decide +kernel, by decide +kernel⟩
theorem pn_MD_farthest : plainName M_MD_farthest.1.cls = true := by decide +kernel
def M_CM_biggest : pM := (⟨"CornerMaps", "biggest", "(I)I"⟩, prog_1_method_66_code, 8, some .int)
theorem co_CM_biggest : CalOK M_CM_biggest 1 := ⟨g_at 1050 (by decide +kernel) rfl, g_at 1 (by decide +kernel) rfl, by decide +kernel, by decide +kernel, by decide +kernel⟩
theorem pn_CM_biggest : plainName M_CM_biggest.1.cls = true := by decide +kernel
def M_CM_isPart : pM := (⟨"CornerMaps", "isPart", "(I)Z"⟩, prog_1_method_74_code, 1, some .boolean)
theorem co_CM_isPart : CalOK M_CM_isPart 1 := ⟨g_at 808 (by decide +kernel) rfl, g_at 1 (by decide +kernel) rfl, by decide +kernel, by decide +kernel, by decide +kernel⟩
theorem pn_CM_isPart : plainName M_CM_isPart.1.cls = true := by decide +kernel
def M_MD_biggest : pM := (⟨"CornerMapsModel", "biggest", "(I)I"⟩, prog_12_method_147_code, 5, some .int)
theorem co_MD_biggest : CalOK M_MD_biggest 1 := ⟨g_at 2217 (by decide +kernel) rfl, g_at 13 (by decide +kernel) rfl, by decide +kernel, by decide +kernel, by decide +kernel⟩
theorem pn_MD_biggest : plainName M_MD_biggest.1.cls = true := by decide +kernel
def M_CM_kinds : pM := (⟨"CornerMaps", "kinds", "(I)I"⟩, prog_1_method_67_code, 4, some .int)
theorem co_CM_kinds : CalOK M_CM_kinds 1 := ⟨g_at 1054 (by decide +kernel) rfl, g_at 1 (by decide +kernel) rfl, by decide +kernel, by decide +kernel, by decide +kernel⟩
theorem pn_CM_kinds : plainName M_CM_kinds.1.cls = true := by decide +kernel
def M_CM_isKind : pM := (⟨"CornerMaps", "isKind", "(I)Z"⟩, prog_1_method_77_code, 1, some .boolean)
theorem co_CM_isKind : CalOK M_CM_isKind 1 := ⟨g_at 917 (by decide +kernel) rfl, g_at 1 (by decide +kernel) rfl, by decide +kernel, by decide +kernel, by decide +kernel⟩
theorem pn_CM_isKind : plainName M_CM_isKind.1.cls = true := by decide +kernel
def M_MD_kinds : pM := (⟨"CornerMapsModel", "kinds", "(I)I"⟩, prog_12_method_148_code, 4, some .int)
theorem co_MD_kinds : CalOK M_MD_kinds 1 := ⟨g_at 2225 (by decide +kernel) rfl, g_at 13 (by decide +kernel) rfl, by decide +kernel, by decide +kernel, by decide +kernel⟩
theorem pn_MD_kinds : plainName M_MD_kinds.1.cls = true := by decide +kernel
def M_CM_pairs : pM := (⟨"CornerMaps", "pairs", "(I)I"⟩, prog_1_method_68_code, 5, some .int)
theorem co_CM_pairs : CalOK M_CM_pairs 1 := ⟨g_at 1058 (by decide +kernel) rfl, g_at 1 (by decide +kernel) rfl, by decide +kernel, by decide +kernel, by decide +kernel⟩
theorem pn_CM_pairs : plainName M_CM_pairs.1.cls = true := by decide +kernel
def M_CM_isThird : pM := (⟨"CornerMaps", "isThird", "(I)Z"⟩, prog_1_method_75_code, 1, some .boolean)
theorem co_CM_isThird : CalOK M_CM_isThird 1 := ⟨g_at 668 (by decide +kernel) rfl, g_at 1 (by decide +kernel) rfl, by decide +kernel, by decide +kernel, by decide +kernel⟩
theorem pn_CM_isThird : plainName M_CM_isThird.1.cls = true := by decide +kernel
def M_MD_pairs : pM := (⟨"CornerMapsModel", "pairs", "(I)I"⟩, prog_12_method_149_code, 5, some .int)
theorem co_MD_pairs : CalOK M_MD_pairs 1 := ⟨g_at 2229 (by decide +kernel) rfl, g_at 13 (by decide +kernel) rfl, by decide +kernel, by decide +kernel, by decide +kernel⟩
theorem pn_MD_pairs : plainName M_MD_pairs.1.cls = true := by decide +kernel
def M_CM_spell : pM := (⟨"CornerMaps", "spell", "(II)I"⟩, prog_1_method_69_code, 4, some .int)
theorem co_CM_spell : CalOK M_CM_spell 2 := ⟨g_at 1066 (by decide +kernel) rfl, g_at 1 (by decide +kernel) rfl, by decide +kernel, by decide +kernel, by decide +kernel⟩
theorem pn_CM_spell : plainName M_CM_spell.1.cls = true := by decide +kernel
def M_MD_spell : pM := (⟨"CornerMapsModel", "spell", "(II)I"⟩, prog_12_method_134_code, 4, some .int)
theorem co_MD_spell : CalOK M_MD_spell 2 := ⟨g_at 2158 (by decide +kernel) rfl, g_at 13 (by decide +kernel) rfl, by decide +kernel, by decide +kernel, by decide +kernel⟩
theorem pn_MD_spell : plainName M_MD_spell.1.cls = true := by decide +kernel
def M_CM_kept : pM := (⟨"CornerMaps", "kept", "(I)I"⟩, prog_1_method_70_code, 4, some .int)
theorem co_CM_kept : CalOK M_CM_kept 1 := ⟨g_at 1419 (by decide +kernel) rfl, g_at 1 (by decide +kernel) rfl, by decide +kernel, by decide +kernel, by decide +kernel⟩
theorem pn_CM_kept : plainName M_CM_kept.1.cls = true := by decide +kernel
def M_MD_kept : pM := (⟨"CornerMapsModel", "kept", "(I)I"⟩, prog_12_method_78_code, 6, some .int)
theorem co_MD_kept : CalOK M_MD_kept 1 := ⟨g_at 1933 (by decide +kernel) rfl, g_at 13 (by decide +kernel) rfl, by decide +kernel, by decide +kernel, by decide +kernel⟩
theorem pn_MD_kept : plainName M_MD_kept.1.cls = true := by decide +kernel
def M_CM_find : pM := (⟨"CornerMaps", "find", "(II)I"⟩, prog_1_method_71_code, 4, some .int)
theorem co_CM_find : CalOK M_CM_find 2 := ⟨g_at 1423 (by decide +kernel) rfl, g_at 1 (by decide +kernel) rfl, by decide +kernel, by decide +kernel, by decide +kernel⟩
theorem pn_CM_find : plainName M_CM_find.1.cls = true := by decide +kernel
def M_MD_find : pM := (⟨"CornerMapsModel", "find", "(II)I"⟩, prog_12_method_157_code, 4, some .int)
theorem co_MD_find : CalOK M_MD_find 2 := ⟨g_at 2263 (by decide +kernel) rfl, g_at 13 (by decide +kernel) rfl, by decide +kernel, by decide +kernel, by decide +kernel⟩
theorem pn_MD_find : plainName M_MD_find.1.cls = true := by decide +kernel
def M_CM_size : pM := (⟨"CornerMaps", "size", "(I)I"⟩, prog_1_method_72_code, 2, some .int)
theorem co_CM_size : CalOK M_CM_size 1 := ⟨g_at 1427 (by decide +kernel) rfl, g_at 1 (by decide +kernel) rfl, by decide +kernel, by decide +kernel, by decide +kernel⟩
theorem pn_CM_size : plainName M_CM_size.1.cls = true := by decide +kernel
def M_MD_size : pM := (⟨"CornerMapsModel", "size", "(I)I"⟩, prog_12_method_158_code, 2, some .int)
theorem co_MD_size : CalOK M_MD_size 1 := ⟨g_at 2267 (by decide +kernel) rfl, g_at 13 (by decide +kernel) rfl, by decide +kernel, by decide +kernel, by decide +kernel⟩
theorem pn_MD_size : plainName M_MD_size.1.cls = true := by decide +kernel
def M_CM_count : pM := (⟨"CornerMaps", "count", "(I)I"⟩, prog_1_method_73_code, 2, some .int)
theorem co_CM_count : CalOK M_CM_count 1 := ⟨g_at 1431 (by decide +kernel) rfl, g_at 1 (by decide +kernel) rfl, by decide +kernel, by decide +kernel, by decide +kernel⟩
theorem pn_CM_count : plainName M_CM_count.1.cls = true := by decide +kernel
def M_MD_count : pM := (⟨"CornerMapsModel", "count", "(I)I"⟩, prog_12_method_161_code, 2, some .int)
theorem co_MD_count : CalOK M_MD_count 1 := ⟨g_at 2271 (by decide +kernel) rfl, g_at 13 (by decide +kernel) rfl, by decide +kernel, by decide +kernel, by decide +kernel⟩
theorem pn_MD_count : plainName M_MD_count.1.cls = true := by decide +kernel
theorem im_Plane_hasQuad : Cond.instanceMethod M_Plane_hasQuad.1 ∈ gtbl := g_at 505 (by decide +kernel) rfl
theorem se_Plane_hasQuad : Cond.selects M_Plane_hasQuad.1.cls M_Plane_hasQuad.1 M_Plane_hasQuad.1 ∈ gtbl := g_at 506 (by decide +kernel) rfl
theorem im_MD_isQuad : Cond.instanceMethod M_MD_isQuad.1 ∈ gtbl := g_at 1758 (by decide +kernel) rfl
theorem se_MD_isQuad : Cond.selects M_MD_isQuad.1.cls M_MD_isQuad.1 M_MD_isQuad.1 ∈ gtbl := g_sel 63 (by decide +kernel) rfl
theorem im_Plane_hasMap : Cond.instanceMethod M_Plane_hasMap.1 ∈ gtbl := g_at 569 (by decide +kernel) rfl
theorem se_Plane_hasMap : Cond.selects M_Plane_hasMap.1.cls M_Plane_hasMap.1 M_Plane_hasMap.1 ∈ gtbl := g_at 570 (by decide +kernel) rfl
theorem im_MD_isMap : Cond.instanceMethod M_MD_isMap.1 ∈ gtbl := g_at 1766 (by decide +kernel) rfl
theorem se_MD_isMap : Cond.selects M_MD_isMap.1.cls M_MD_isMap.1 M_MD_isMap.1 ∈ gtbl := g_sel 64 (by decide +kernel) rfl
theorem im_Plane_hasPoint : Cond.instanceMethod M_Plane_hasPoint.1 ∈ gtbl := g_at 697 (by decide +kernel) rfl
theorem se_Plane_hasPoint : Cond.selects M_Plane_hasPoint.1.cls M_Plane_hasPoint.1 M_Plane_hasPoint.1 ∈ gtbl := g_at 698 (by decide +kernel) rfl
theorem im_MD_isPoint : Cond.instanceMethod M_MD_isPoint.1 ∈ gtbl := g_at 1777 (by decide +kernel) rfl
theorem se_MD_isPoint : Cond.selects M_MD_isPoint.1.cls M_MD_isPoint.1 M_MD_isPoint.1 ∈ gtbl := g_sel 65 (by decide +kernel) rfl
theorem im_CM_arePoints : Cond.instanceMethod M_CM_arePoints.1 ∈ gtbl := g_at 800 (by decide +kernel) rfl
theorem se_CM_arePoints : Cond.selects M_CM_arePoints.1.cls M_CM_arePoints.1 M_CM_arePoints.1 ∈ gtbl := g_sel 23 (by decide +kernel) rfl
theorem im_CM_isFar : Cond.instanceMethod M_CM_isFar.1 ∈ gtbl := g_at 996 (by decide +kernel) rfl
theorem se_CM_isFar : Cond.selects M_CM_isFar.1.cls M_CM_isFar.1 M_CM_isFar.1 ∈ gtbl := g_sel 39 (by decide +kernel) rfl
theorem L_Plane_30 : Cond.fieldLink "CornerMaps$Plane" 30 "CornerMaps$Plane" "quadCount" "I" ∈ gtbl := g_at 76 (by decide +kernel) rfl
theorem L_Plane_33 : Cond.fieldLink "CornerMaps$Plane" 33 "CornerMaps$Plane" "mapCount" "I" ∈ gtbl := g_at 80 (by decide +kernel) rfl
theorem L_Plane_36 : Cond.fieldLink "CornerMaps$Plane" 36 "CornerMaps$Plane" "pointCount" "I" ∈ gtbl := g_at 84 (by decide +kernel) rfl
theorem L_MD_204 : Cond.fieldLink "CornerMapsModel" 204 "CornerMapsModel" "quads" "I" ∈ gtbl := g_at 1502 (by decide +kernel) rfl
theorem L_CM_127 : Cond.methodLink "CornerMaps" 127 ⟨"CornerMaps$Plane", "hasQuad", "(I)Z"⟩ ∈ gtbl := g_at 504 (by decide +kernel) rfl
theorem L_MD_74 : Cond.fieldLink "CornerMapsModel" 74 "CornerMapsModel" "thrown" "I" ∈ gtbl := g_at 1497 (by decide +kernel) rfl
theorem L_MD_238 : Cond.methodLink "CornerMapsModel" 238 ⟨"CornerMapsModel", "isQuad", "(I)Z"⟩ ∈ gtbl := g_at 1756 (by decide +kernel) rfl
theorem L_CM_151 : Cond.methodLink "CornerMaps" 151 ⟨"CornerMaps$Plane", "hasMap", "(I)Z"⟩ ∈ gtbl := g_at 568 (by decide +kernel) rfl
theorem L_MD_241 : Cond.methodLink "CornerMapsModel" 241 ⟨"CornerMapsModel", "isMap", "(I)Z"⟩ ∈ gtbl := g_at 1764 (by decide +kernel) rfl
theorem L_CM_160 : Cond.methodLink "CornerMaps" 160 ⟨"CornerMaps$Plane", "hasPoint", "(I)Z"⟩ ∈ gtbl := g_at 696 (by decide +kernel) rfl
theorem L_MD_247 : Cond.methodLink "CornerMapsModel" 247 ⟨"CornerMapsModel", "isPoint", "(I)Z"⟩ ∈ gtbl := g_at 1775 (by decide +kernel) rfl
theorem L_MD_77 : Cond.fieldLink "CornerMapsModel" 77 "CornerMapsModel" "taped" "I" ∈ gtbl := g_at 1499 (by decide +kernel) rfl
theorem L_CM_107 : Cond.fieldLinkNest "CornerMaps" 107 "CornerMaps$Tape" "length" "I" "CornerMaps" ∈ ntbl := nt_at 113 (by decide +kernel) rfl
theorem L_CM_124 : Cond.fieldLinkNest "CornerMaps" 124 "CornerMaps$Reader" "faultPlace" "I" "CornerMaps" ∈ ntbl := nt_at 159 (by decide +kernel) rfl
theorem L_CM_121 : Cond.fieldLinkNest "CornerMaps" 121 "CornerMaps$Reader" "fault" "I" "CornerMaps" ∈ ntbl := nt_at 157 (by decide +kernel) rfl
theorem L_MD_201 : Cond.fieldLink "CornerMapsModel" 201 "CornerMapsModel" "lastFault" "I" ∈ gtbl := g_at 1520 (by decide +kernel) rfl
theorem L_CM_183 : Cond.constant "CornerMaps" 183 (-100000 : Int32) ∈ gtbl := g_at 534 (by decide +kernel) rfl
theorem L_MD_265 : Cond.constant "CornerMapsModel" 265 (-100000 : Int32) ∈ gtbl := g_at 1807 (by decide +kernel) rfl
theorem L_CM_260 : Cond.fieldLinkNest "CornerMaps" 260 "CornerMaps$Past" "count" "I" "CornerMaps" ∈ ntbl := nt_at 201 (by decide +kernel) rfl
theorem L_CM_270 : Cond.constantLong "CornerMaps" 270 (-9223372036854775808 : Int64) ∈ gtbl := g_at 669 (by decide +kernel) rfl
theorem L_MD_307 : Cond.constantLong "CornerMapsModel" 307 (-9223372036854775808 : Int64) ∈ gtbl := g_at 1893 (by decide +kernel) rfl
theorem L_CM_330 : Cond.methodLink "CornerMaps" 330 ⟨"CornerMaps", "arePoints", "(IIII)Z"⟩ ∈ gtbl := g_at 798 (by decide +kernel) rfl
theorem L_CM_225 : Cond.fieldLinkNest "CornerMaps" 225 "CornerMaps$Plane" "mapCount" "I" "CornerMaps" ∈ ntbl := nt_at 83 (by decide +kernel) rfl
theorem L_CM_394 : Cond.fieldLinkNest "CornerMaps" 394 "CornerMaps$Pairs" "count" "I" "CornerMaps" ∈ ntbl := nt_at 224 (by decide +kernel) rfl
theorem L_MD_432 : Cond.fieldLink "CornerMapsModel" 432 "CornerMapsModel" "unlikeMany" "I" ∈ gtbl := g_at 1532 (by decide +kernel) rfl
theorem L_CM_398 : Cond.methodLink "CornerMaps" 398 ⟨"CornerMaps", "isFar", "(I)Z"⟩ ∈ gtbl := g_at 994 (by decide +kernel) rfl
theorem d_Plane_hasQuad_0 : decode prog_6_method_3_code 0 = .ok (.iload_n 1, 1) := by decide +kernel
theorem d_Plane_hasQuad_1 : decode prog_6_method_3_code 1 = .ok (.ifCond .lt (15), 3) := by decide +kernel
theorem d_Plane_hasQuad_4 : decode prog_6_method_3_code 4 = .ok (.iload_n 1, 1) := by decide +kernel
theorem d_Plane_hasQuad_5 : decode prog_6_method_3_code 5 = .ok (.aload_n 0, 1) := by decide +kernel
theorem d_Plane_hasQuad_6 : decode prog_6_method_3_code 6 = .ok (.getfield 30, 3) := by decide +kernel
theorem d_Plane_hasQuad_9 : decode prog_6_method_3_code 9 = .ok (.if_icmp .ge (7), 3) := by decide +kernel
theorem d_Plane_hasQuad_16 : decode prog_6_method_3_code 16 = .ok (.iconst 0, 1) := by decide +kernel
theorem d_Plane_hasQuad_17 : decode prog_6_method_3_code 17 = .ok (.ireturn, 1) := by decide +kernel
theorem d_Plane_hasMap_0 : decode prog_6_method_4_code 0 = .ok (.iload_n 1, 1) := by decide +kernel
theorem d_Plane_hasMap_1 : decode prog_6_method_4_code 1 = .ok (.ifCond .lt (15), 3) := by decide +kernel
theorem d_Plane_hasMap_4 : decode prog_6_method_4_code 4 = .ok (.iload_n 1, 1) := by decide +kernel
theorem d_Plane_hasMap_5 : decode prog_6_method_4_code 5 = .ok (.aload_n 0, 1) := by decide +kernel
theorem d_Plane_hasMap_6 : decode prog_6_method_4_code 6 = .ok (.getfield 33, 3) := by decide +kernel
theorem d_Plane_hasMap_9 : decode prog_6_method_4_code 9 = .ok (.if_icmp .ge (7), 3) := by decide +kernel
theorem d_Plane_hasMap_16 : decode prog_6_method_4_code 16 = .ok (.iconst 0, 1) := by decide +kernel
theorem d_Plane_hasMap_17 : decode prog_6_method_4_code 17 = .ok (.ireturn, 1) := by decide +kernel
theorem d_Plane_hasPoint_0 : decode prog_6_method_5_code 0 = .ok (.iload_n 1, 1) := by decide +kernel
theorem d_Plane_hasPoint_1 : decode prog_6_method_5_code 1 = .ok (.ifCond .lt (15), 3) := by decide +kernel
theorem d_Plane_hasPoint_4 : decode prog_6_method_5_code 4 = .ok (.iload_n 1, 1) := by decide +kernel
theorem d_Plane_hasPoint_5 : decode prog_6_method_5_code 5 = .ok (.aload_n 0, 1) := by decide +kernel
theorem d_Plane_hasPoint_6 : decode prog_6_method_5_code 6 = .ok (.getfield 36, 3) := by decide +kernel
theorem d_Plane_hasPoint_9 : decode prog_6_method_5_code 9 = .ok (.if_icmp .ge (7), 3) := by decide +kernel
theorem d_Plane_hasPoint_16 : decode prog_6_method_5_code 16 = .ok (.iconst 0, 1) := by decide +kernel
theorem d_Plane_hasPoint_17 : decode prog_6_method_5_code 17 = .ok (.ireturn, 1) := by decide +kernel
theorem d_MD_isQuad_0 : decode prog_12_method_37_code 0 = .ok (.iload_n 1, 1) := by decide +kernel
theorem d_MD_isQuad_1 : decode prog_12_method_37_code 1 = .ok (.ifCond .lt (15), 3) := by decide +kernel
theorem d_MD_isQuad_4 : decode prog_12_method_37_code 4 = .ok (.iload_n 1, 1) := by decide +kernel
theorem d_MD_isQuad_5 : decode prog_12_method_37_code 5 = .ok (.aload_n 0, 1) := by decide +kernel
theorem d_MD_isQuad_6 : decode prog_12_method_37_code 6 = .ok (.getfield 204, 3) := by decide +kernel
theorem d_MD_isQuad_9 : decode prog_12_method_37_code 9 = .ok (.if_icmp .ge (7), 3) := by decide +kernel
theorem d_MD_isQuad_16 : decode prog_12_method_37_code 16 = .ok (.iconst 0, 1) := by decide +kernel
theorem d_MD_isQuad_17 : decode prog_12_method_37_code 17 = .ok (.ireturn, 1) := by decide +kernel
theorem d_MD_isMap_0 : decode prog_12_method_38_code 0 = .ok (.iload_n 1, 1) := by decide +kernel
theorem d_MD_isMap_1 : decode prog_12_method_38_code 1 = .ok (.ifCond .lt (21), 3) := by decide +kernel
theorem d_MD_isMap_4 : decode prog_12_method_38_code 4 = .ok (.iload_n 1, 1) := by decide +kernel
theorem d_MD_isMap_5 : decode prog_12_method_38_code 5 = .ok (.i2l, 1) := by decide +kernel
theorem d_MD_isMap_6 : decode prog_12_method_38_code 6 = .ok (.aload_n 0, 1) := by decide +kernel
theorem d_MD_isMap_7 : decode prog_12_method_38_code 7 = .ok (.getfield 21, 3) := by decide +kernel
theorem d_MD_isMap_10 : decode prog_12_method_38_code 10 = .ok (.sipush (168), 3) := by decide +kernel
theorem d_MD_isMap_13 : decode prog_12_method_38_code 13 = .ok (.laload, 1) := by decide +kernel
theorem d_MD_isMap_14 : decode prog_12_method_38_code 14 = .ok (.lcmp, 1) := by decide +kernel
theorem d_MD_isMap_15 : decode prog_12_method_38_code 15 = .ok (.ifCond .ge (7), 3) := by decide +kernel
theorem d_MD_isMap_22 : decode prog_12_method_38_code 22 = .ok (.iconst 0, 1) := by decide +kernel
theorem d_MD_isMap_23 : decode prog_12_method_38_code 23 = .ok (.ireturn, 1) := by decide +kernel
theorem d_MD_isPoint_0 : decode prog_12_method_39_code 0 = .ok (.iload_n 1, 1) := by decide +kernel
theorem d_MD_isPoint_1 : decode prog_12_method_39_code 1 = .ok (.ifCond .lt (21), 3) := by decide +kernel
theorem d_MD_isPoint_4 : decode prog_12_method_39_code 4 = .ok (.iload_n 1, 1) := by decide +kernel
theorem d_MD_isPoint_5 : decode prog_12_method_39_code 5 = .ok (.i2l, 1) := by decide +kernel
theorem d_MD_isPoint_6 : decode prog_12_method_39_code 6 = .ok (.aload_n 0, 1) := by decide +kernel
theorem d_MD_isPoint_7 : decode prog_12_method_39_code 7 = .ok (.getfield 21, 3) := by decide +kernel
theorem d_MD_isPoint_10 : decode prog_12_method_39_code 10 = .ok (.sipush (169), 3) := by decide +kernel
theorem d_MD_isPoint_13 : decode prog_12_method_39_code 13 = .ok (.laload, 1) := by decide +kernel
theorem d_MD_isPoint_14 : decode prog_12_method_39_code 14 = .ok (.lcmp, 1) := by decide +kernel
theorem d_MD_isPoint_15 : decode prog_12_method_39_code 15 = .ok (.ifCond .ge (7), 3) := by decide +kernel
theorem d_MD_isPoint_22 : decode prog_12_method_39_code 22 = .ok (.iconst 0, 1) := by decide +kernel
theorem d_MD_isPoint_23 : decode prog_12_method_39_code 23 = .ok (.ireturn, 1) := by decide +kernel
theorem d_CM_corner_0 : decode prog_1_method_5_code 0 = .ok (.aload_n 0, 1) := by decide +kernel
theorem d_CM_corner_1 : decode prog_1_method_5_code 1 = .ok (.getfield 12, 3) := by decide +kernel
theorem d_CM_corner_4 : decode prog_1_method_5_code 4 = .ok (.iload_n 1, 1) := by decide +kernel
theorem d_CM_corner_5 : decode prog_1_method_5_code 5 = .ok (.invokevirtual 127, 3) := by decide +kernel
theorem d_CM_corner_8 : decode prog_1_method_5_code 8 = .ok (.ifCond .eq (10), 3) := by decide +kernel
theorem d_CM_corner_18 : decode prog_1_method_5_code 18 = .ok (.new 133, 3) := by decide +kernel
theorem d_MD_corner_0 : decode prog_12_method_42_code 0 = .ok (.aload_n 0, 1) := by decide +kernel
theorem d_MD_corner_1 : decode prog_12_method_42_code 1 = .ok (.iconst 0, 1) := by decide +kernel
theorem d_MD_corner_2 : decode prog_12_method_42_code 2 = .ok (.putfield 74, 3) := by decide +kernel
theorem d_MD_corner_5 : decode prog_12_method_42_code 5 = .ok (.aload_n 0, 1) := by decide +kernel
theorem d_MD_corner_6 : decode prog_12_method_42_code 6 = .ok (.iload_n 1, 1) := by decide +kernel
theorem d_MD_corner_7 : decode prog_12_method_42_code 7 = .ok (.invokevirtual 238, 3) := by decide +kernel
theorem d_MD_corner_10 : decode prog_12_method_42_code 10 = .ok (.ifCond .eq (12), 3) := by decide +kernel
theorem d_MD_corner_22 : decode prog_12_method_42_code 22 = .ok (.aload_n 0, 1) := by decide +kernel
theorem d_MD_corner_23 : decode prog_12_method_42_code 23 = .ok (.iconst 1, 1) := by decide +kernel
theorem d_MD_corner_24 : decode prog_12_method_42_code 24 = .ok (.putfield 74, 3) := by decide +kernel
theorem d_CM_map_0 : decode prog_1_method_6_code 0 = .ok (.aload_n 0, 1) := by decide +kernel
theorem d_CM_map_1 : decode prog_1_method_6_code 1 = .ok (.getfield 12, 3) := by decide +kernel
theorem d_CM_map_4 : decode prog_1_method_6_code 4 = .ok (.iload_n 1, 1) := by decide +kernel
theorem d_CM_map_5 : decode prog_1_method_6_code 5 = .ok (.invokevirtual 151, 3) := by decide +kernel
theorem d_CM_map_8 : decode prog_1_method_6_code 8 = .ok (.ifCond .ne (11), 3) := by decide +kernel
theorem d_CM_map_11 : decode prog_1_method_6_code 11 = .ok (.new 133, 3) := by decide +kernel
theorem d_MD_map_0 : decode prog_12_method_43_code 0 = .ok (.aload_n 0, 1) := by decide +kernel
theorem d_MD_map_1 : decode prog_12_method_43_code 1 = .ok (.iconst 0, 1) := by decide +kernel
theorem d_MD_map_2 : decode prog_12_method_43_code 2 = .ok (.putfield 74, 3) := by decide +kernel
theorem d_MD_map_5 : decode prog_12_method_43_code 5 = .ok (.aload_n 0, 1) := by decide +kernel
theorem d_MD_map_6 : decode prog_12_method_43_code 6 = .ok (.iload_n 1, 1) := by decide +kernel
theorem d_MD_map_7 : decode prog_12_method_43_code 7 = .ok (.invokevirtual 241, 3) := by decide +kernel
theorem d_MD_map_10 : decode prog_12_method_43_code 10 = .ok (.ifCond .ne (10), 3) := by decide +kernel
theorem d_MD_map_13 : decode prog_12_method_43_code 13 = .ok (.aload_n 0, 1) := by decide +kernel
theorem d_MD_map_14 : decode prog_12_method_43_code 14 = .ok (.iconst 1, 1) := by decide +kernel
theorem d_MD_map_15 : decode prog_12_method_43_code 15 = .ok (.putfield 74, 3) := by decide +kernel
theorem d_CM_point_0 : decode prog_1_method_7_code 0 = .ok (.aload_n 0, 1) := by decide +kernel
theorem d_CM_point_1 : decode prog_1_method_7_code 1 = .ok (.getfield 12, 3) := by decide +kernel
theorem d_CM_point_4 : decode prog_1_method_7_code 4 = .ok (.iload_n 1, 1) := by decide +kernel
theorem d_CM_point_5 : decode prog_1_method_7_code 5 = .ok (.invokevirtual 160, 3) := by decide +kernel
theorem d_CM_point_8 : decode prog_1_method_7_code 8 = .ok (.ifCond .ne (11), 3) := by decide +kernel
theorem d_CM_point_11 : decode prog_1_method_7_code 11 = .ok (.new 133, 3) := by decide +kernel
theorem d_MD_point_0 : decode prog_12_method_44_code 0 = .ok (.aload_n 0, 1) := by decide +kernel
theorem d_MD_point_1 : decode prog_12_method_44_code 1 = .ok (.iconst 0, 1) := by decide +kernel
theorem d_MD_point_2 : decode prog_12_method_44_code 2 = .ok (.putfield 74, 3) := by decide +kernel
theorem d_MD_point_5 : decode prog_12_method_44_code 5 = .ok (.aload_n 0, 1) := by decide +kernel
theorem d_MD_point_6 : decode prog_12_method_44_code 6 = .ok (.iload_n 1, 1) := by decide +kernel
theorem d_MD_point_7 : decode prog_12_method_44_code 7 = .ok (.invokevirtual 247, 3) := by decide +kernel
theorem d_MD_point_10 : decode prog_12_method_44_code 10 = .ok (.ifCond .ne (10), 3) := by decide +kernel
theorem d_MD_point_13 : decode prog_12_method_44_code 13 = .ok (.aload_n 0, 1) := by decide +kernel
theorem d_MD_point_14 : decode prog_12_method_44_code 14 = .ok (.iconst 1, 1) := by decide +kernel
theorem d_MD_point_15 : decode prog_12_method_44_code 15 = .ok (.putfield 74, 3) := by decide +kernel
theorem d_CM_feed_0 : decode prog_1_method_2_code 0 = .ok (.aload_n 0, 1) := by decide +kernel
theorem d_CM_feed_1 : decode prog_1_method_2_code 1 = .ok (.getfield 24, 3) := by decide +kernel
theorem d_CM_feed_4 : decode prog_1_method_2_code 4 = .ok (.bipush (20), 2) := by decide +kernel
theorem d_CM_feed_6 : decode prog_1_method_2_code 6 = .ok (.invokevirtual 99, 3) := by decide +kernel
theorem d_MD_feed_0 : decode prog_12_method_3_code 0 = .ok (.aload_n 0, 1) := by decide +kernel
theorem d_MD_feed_1 : decode prog_12_method_3_code 1 = .ok (.iconst 0, 1) := by decide +kernel
theorem d_MD_feed_2 : decode prog_12_method_3_code 2 = .ok (.putfield 74, 3) := by decide +kernel
theorem d_MD_feed_5 : decode prog_12_method_3_code 5 = .ok (.aload_n 0, 1) := by decide +kernel
theorem d_MD_feed_6 : decode prog_12_method_3_code 6 = .ok (.getfield 77, 3) := by decide +kernel
theorem d_MD_feed_9 : decode prog_12_method_3_code 9 = .ok (.sipush (880), 3) := by decide +kernel
theorem d_MD_feed_12 : decode prog_12_method_3_code 12 = .ok (.if_icmp .le (5), 3) := by decide +kernel
theorem d_MD_feed_17 : decode prog_12_method_3_code 17 = .ok (.iconst 0, 1) := by decide +kernel
theorem d_MD_feed_18 : decode prog_12_method_3_code 18 = .ok (.istore 6, 2) := by decide +kernel
theorem d_MD_feed_20 : decode prog_12_method_3_code 20 = .ok (.iload 6, 2) := by decide +kernel
theorem d_MD_feed_22 : decode prog_12_method_3_code 22 = .ok (.bipush (20), 2) := by decide +kernel
theorem d_MD_feed_24 : decode prog_12_method_3_code 24 = .ok (.if_icmp .ge (86), 3) := by decide +kernel
theorem d_MD_feed_27 : decode prog_12_method_3_code 27 = .ok (.iload 6, 2) := by decide +kernel
theorem d_MD_feed_29 : decode prog_12_method_3_code 29 = .ok (.iconst 4, 1) := by decide +kernel
theorem d_MD_feed_30 : decode prog_12_method_3_code 30 = .ok (.if_icmp .ge (7), 3) := by decide +kernel
theorem d_MD_feed_33 : decode prog_12_method_3_code 33 = .ok (.iload_n 1, 1) := by decide +kernel
theorem d_MD_feed_34 : decode prog_12_method_3_code 34 = .ok (.goto (39), 3) := by decide +kernel
theorem d_MD_feed_73 : decode prog_12_method_3_code 73 = .ok (.istore 7, 2) := by decide +kernel
theorem d_MD_feed_75 : decode prog_12_method_3_code 75 = .ok (.aload_n 0, 1) := by decide +kernel
theorem d_MD_feed_76 : decode prog_12_method_3_code 76 = .ok (.getfield 9, 3) := by decide +kernel
theorem d_MD_feed_79 : decode prog_12_method_3_code 79 = .ok (.aload_n 0, 1) := by decide +kernel
theorem d_MD_feed_80 : decode prog_12_method_3_code 80 = .ok (.getfield 77, 3) := by decide +kernel
theorem d_MD_feed_83 : decode prog_12_method_3_code 83 = .ok (.iload 6, 2) := by decide +kernel
theorem d_MD_feed_85 : decode prog_12_method_3_code 85 = .ok (.iadd, 1) := by decide +kernel
theorem d_MD_feed_86 : decode prog_12_method_3_code 86 = .ok (.iload 7, 2) := by decide +kernel
theorem d_MD_feed_88 : decode prog_12_method_3_code 88 = .ok (.bipush (24), 2) := by decide +kernel
theorem d_MD_feed_90 : decode prog_12_method_3_code 90 = .ok (.bipush (8), 2) := by decide +kernel
theorem d_MD_feed_92 : decode prog_12_method_3_code 92 = .ok (.iload 6, 2) := by decide +kernel
theorem d_MD_feed_94 : decode prog_12_method_3_code 94 = .ok (.iconst 4, 1) := by decide +kernel
theorem d_MD_feed_95 : decode prog_12_method_3_code 95 = .ok (.irem, 1) := by decide +kernel
theorem d_CM_text_0 : decode prog_1_method_3_code 0 = .ok (.iload_n 1, 1) := by decide +kernel
theorem d_CM_text_1 : decode prog_1_method_3_code 1 = .ok (.ifCond .lt (14), 3) := by decide +kernel
theorem d_CM_text_4 : decode prog_1_method_3_code 4 = .ok (.iload_n 1, 1) := by decide +kernel
theorem d_CM_text_5 : decode prog_1_method_3_code 5 = .ok (.aload_n 0, 1) := by decide +kernel
theorem d_CM_text_6 : decode prog_1_method_3_code 6 = .ok (.getfield 24, 3) := by decide +kernel
theorem d_CM_text_9 : decode prog_1_method_3_code 9 = .ok (.getfield 107, 3) := by decide +kernel
theorem d_CM_text_12 : decode prog_1_method_3_code 12 = .ok (.if_icmp .le (6), 3) := by decide +kernel
theorem d_CM_text_15 : decode prog_1_method_3_code 15 = .ok (.bipush (-2), 2) := by decide +kernel
theorem d_CM_text_17 : decode prog_1_method_3_code 17 = .ok (.ireturn, 1) := by decide +kernel
theorem d_CM_text_18 : decode prog_1_method_3_code 18 = .ok (.aload_n 0, 1) := by decide +kernel
theorem d_CM_text_19 : decode prog_1_method_3_code 19 = .ok (.getfield 40, 3) := by decide +kernel
theorem d_CM_text_22 : decode prog_1_method_3_code 22 = .ok (.iload_n 1, 1) := by decide +kernel
theorem d_CM_text_23 : decode prog_1_method_3_code 23 = .ok (.aload_n 0, 1) := by decide +kernel
theorem d_CM_text_24 : decode prog_1_method_3_code 24 = .ok (.getfield 18, 3) := by decide +kernel
theorem d_CM_text_27 : decode prog_1_method_3_code 27 = .ok (.invokevirtual 111, 3) := by decide +kernel
theorem d_MD_text_0 : decode prog_12_method_21_code 0 = .ok (.aload_n 0, 1) := by decide +kernel
theorem d_MD_text_1 : decode prog_12_method_21_code 1 = .ok (.iconst 0, 1) := by decide +kernel
theorem d_MD_text_2 : decode prog_12_method_21_code 2 = .ok (.putfield 74, 3) := by decide +kernel
theorem d_MD_text_5 : decode prog_12_method_21_code 5 = .ok (.iload_n 1, 1) := by decide +kernel
theorem d_MD_text_6 : decode prog_12_method_21_code 6 = .ok (.ifCond .lt (11), 3) := by decide +kernel
theorem d_MD_text_9 : decode prog_12_method_21_code 9 = .ok (.iload_n 1, 1) := by decide +kernel
theorem d_MD_text_10 : decode prog_12_method_21_code 10 = .ok (.aload_n 0, 1) := by decide +kernel
theorem d_MD_text_11 : decode prog_12_method_21_code 11 = .ok (.getfield 77, 3) := by decide +kernel
theorem d_MD_text_14 : decode prog_12_method_21_code 14 = .ok (.if_icmp .le (6), 3) := by decide +kernel
theorem d_MD_text_17 : decode prog_12_method_21_code 17 = .ok (.bipush (-2), 2) := by decide +kernel
theorem d_MD_text_19 : decode prog_12_method_21_code 19 = .ok (.ireturn, 1) := by decide +kernel
theorem d_MD_text_20 : decode prog_12_method_21_code 20 = .ok (.iconst 0, 1) := by decide +kernel
theorem d_MD_text_21 : decode prog_12_method_21_code 21 = .ok (.istore_n 2, 1) := by decide +kernel
theorem d_MD_text_22 : decode prog_12_method_21_code 22 = .ok (.iload_n 2, 1) := by decide +kernel
theorem d_MD_text_23 : decode prog_12_method_21_code 23 = .ok (.sipush (170), 3) := by decide +kernel
theorem d_MD_text_26 : decode prog_12_method_21_code 26 = .ok (.if_icmp .ge (16), 3) := by decide +kernel
theorem d_MD_text_29 : decode prog_12_method_21_code 29 = .ok (.aload_n 0, 1) := by decide +kernel
theorem d_MD_text_30 : decode prog_12_method_21_code 30 = .ok (.getfield 25, 3) := by decide +kernel
theorem d_MD_text_33 : decode prog_12_method_21_code 33 = .ok (.iload_n 2, 1) := by decide +kernel
theorem d_MD_text_34 : decode prog_12_method_21_code 34 = .ok (.lconst 0, 1) := by decide +kernel
theorem d_MD_text_35 : decode prog_12_method_21_code 35 = .ok (.lastore, 1) := by decide +kernel
theorem d_CM_fault_0 : decode prog_1_method_4_code 0 = .ok (.iload_n 1, 1) := by decide +kernel
theorem d_CM_fault_1 : decode prog_1_method_4_code 1 = .ok (.ifCond .ne (11), 3) := by decide +kernel
theorem d_CM_fault_4 : decode prog_1_method_4_code 4 = .ok (.aload_n 0, 1) := by decide +kernel
theorem d_CM_fault_5 : decode prog_1_method_4_code 5 = .ok (.getfield 40, 3) := by decide +kernel
theorem d_CM_fault_8 : decode prog_1_method_4_code 8 = .ok (.getfield 121, 3) := by decide +kernel
theorem d_CM_fault_11 : decode prog_1_method_4_code 11 = .ok (.ireturn, 1) := by decide +kernel
theorem d_CM_fault_12 : decode prog_1_method_4_code 12 = .ok (.iload_n 1, 1) := by decide +kernel
theorem d_CM_fault_13 : decode prog_1_method_4_code 13 = .ok (.iconst 1, 1) := by decide +kernel
theorem d_CM_fault_14 : decode prog_1_method_4_code 14 = .ok (.if_icmp .ne (13), 3) := by decide +kernel
theorem d_CM_fault_17 : decode prog_1_method_4_code 17 = .ok (.aload_n 0, 1) := by decide +kernel
theorem d_CM_fault_18 : decode prog_1_method_4_code 18 = .ok (.getfield 40, 3) := by decide +kernel
theorem d_CM_fault_21 : decode prog_1_method_4_code 21 = .ok (.getfield 124, 3) := by decide +kernel
theorem d_CM_fault_24 : decode prog_1_method_4_code 24 = .ok (.goto (4), 3) := by decide +kernel
theorem d_CM_fault_27 : decode prog_1_method_4_code 27 = .ok (.iconst (-1), 1) := by decide +kernel
theorem d_CM_fault_28 : decode prog_1_method_4_code 28 = .ok (.ireturn, 1) := by decide +kernel
theorem d_MD_fault_0 : decode prog_12_method_22_code 0 = .ok (.aload_n 0, 1) := by decide +kernel
theorem d_MD_fault_1 : decode prog_12_method_22_code 1 = .ok (.iconst 0, 1) := by decide +kernel
theorem d_MD_fault_2 : decode prog_12_method_22_code 2 = .ok (.putfield 74, 3) := by decide +kernel
theorem d_MD_fault_5 : decode prog_12_method_22_code 5 = .ok (.iload_n 1, 1) := by decide +kernel
theorem d_MD_fault_6 : decode prog_12_method_22_code 6 = .ok (.ifCond .ne (10), 3) := by decide +kernel
theorem d_MD_fault_9 : decode prog_12_method_22_code 9 = .ok (.aload_n 0, 1) := by decide +kernel
theorem d_MD_fault_10 : decode prog_12_method_22_code 10 = .ok (.getfield 201, 3) := by decide +kernel
theorem d_MD_fault_13 : decode prog_12_method_22_code 13 = .ok (.goto (16), 3) := by decide +kernel
theorem d_MD_fault_16 : decode prog_12_method_22_code 16 = .ok (.iload_n 1, 1) := by decide +kernel
theorem d_MD_fault_17 : decode prog_12_method_22_code 17 = .ok (.iconst 1, 1) := by decide +kernel
theorem d_MD_fault_18 : decode prog_12_method_22_code 18 = .ok (.if_icmp .ne (10), 3) := by decide +kernel
theorem d_MD_fault_21 : decode prog_12_method_22_code 21 = .ok (.aload_n 0, 1) := by decide +kernel
theorem d_MD_fault_22 : decode prog_12_method_22_code 22 = .ok (.getfield 37, 3) := by decide +kernel
theorem d_MD_fault_25 : decode prog_12_method_22_code 25 = .ok (.goto (4), 3) := by decide +kernel
theorem d_MD_fault_28 : decode prog_12_method_22_code 28 = .ok (.iconst (-1), 1) := by decide +kernel
theorem d_MD_fault_29 : decode prog_12_method_22_code 29 = .ok (.ireturn, 1) := by decide +kernel
theorem d_CM_shape_0 : decode prog_1_method_8_code 0 = .ok (.aload_n 0, 1) := by decide +kernel
theorem d_CM_shape_1 : decode prog_1_method_8_code 1 = .ok (.getfield 12, 3) := by decide +kernel
theorem d_CM_shape_4 : decode prog_1_method_8_code 4 = .ok (.iload_n 1, 1) := by decide +kernel
theorem d_CM_shape_5 : decode prog_1_method_8_code 5 = .ok (.invokevirtual 127, 3) := by decide +kernel
theorem d_CM_shape_8 : decode prog_1_method_8_code 8 = .ok (.ifCond .eq (21), 3) := by decide +kernel
theorem d_CM_shape_29 : decode prog_1_method_8_code 29 = .ok (.iconst (-1), 1) := by decide +kernel
theorem d_CM_shape_30 : decode prog_1_method_8_code 30 = .ok (.ireturn, 1) := by decide +kernel
theorem d_MD_shape_0 : decode prog_12_method_48_code 0 = .ok (.aload_n 0, 1) := by decide +kernel
theorem d_MD_shape_1 : decode prog_12_method_48_code 1 = .ok (.iconst 0, 1) := by decide +kernel
theorem d_MD_shape_2 : decode prog_12_method_48_code 2 = .ok (.putfield 74, 3) := by decide +kernel
theorem d_MD_shape_5 : decode prog_12_method_48_code 5 = .ok (.aload_n 0, 1) := by decide +kernel
theorem d_MD_shape_6 : decode prog_12_method_48_code 6 = .ok (.iload_n 1, 1) := by decide +kernel
theorem d_MD_shape_7 : decode prog_12_method_48_code 7 = .ok (.invokevirtual 238, 3) := by decide +kernel
theorem d_MD_shape_10 : decode prog_12_method_48_code 10 = .ok (.ifCond .ne (5), 3) := by decide +kernel
theorem d_MD_shape_13 : decode prog_12_method_48_code 13 = .ok (.iconst (-1), 1) := by decide +kernel
theorem d_MD_shape_14 : decode prog_12_method_48_code 14 = .ok (.ireturn, 1) := by decide +kernel
theorem d_CM_dent_0 : decode prog_1_method_9_code 0 = .ok (.aload_n 0, 1) := by decide +kernel
theorem d_CM_dent_1 : decode prog_1_method_9_code 1 = .ok (.getfield 12, 3) := by decide +kernel
theorem d_CM_dent_4 : decode prog_1_method_9_code 4 = .ok (.iload_n 1, 1) := by decide +kernel
theorem d_CM_dent_5 : decode prog_1_method_9_code 5 = .ok (.invokevirtual 127, 3) := by decide +kernel
theorem d_CM_dent_8 : decode prog_1_method_9_code 8 = .ok (.ifCond .ne (5), 3) := by decide +kernel
theorem d_CM_dent_11 : decode prog_1_method_9_code 11 = .ok (.iconst (-1), 1) := by decide +kernel
theorem d_CM_dent_12 : decode prog_1_method_9_code 12 = .ok (.ireturn, 1) := by decide +kernel
theorem d_MD_dent_0 : decode prog_12_method_49_code 0 = .ok (.aload_n 0, 1) := by decide +kernel
theorem d_MD_dent_1 : decode prog_12_method_49_code 1 = .ok (.iconst 0, 1) := by decide +kernel
theorem d_MD_dent_2 : decode prog_12_method_49_code 2 = .ok (.putfield 74, 3) := by decide +kernel
theorem d_MD_dent_5 : decode prog_12_method_49_code 5 = .ok (.aload_n 0, 1) := by decide +kernel
theorem d_MD_dent_6 : decode prog_12_method_49_code 6 = .ok (.iload_n 1, 1) := by decide +kernel
theorem d_MD_dent_7 : decode prog_12_method_49_code 7 = .ok (.invokevirtual 238, 3) := by decide +kernel
theorem d_MD_dent_10 : decode prog_12_method_49_code 10 = .ok (.ifCond .eq (11), 3) := by decide +kernel
theorem d_MD_dent_21 : decode prog_12_method_49_code 21 = .ok (.iconst (-1), 1) := by decide +kernel
theorem d_MD_dent_22 : decode prog_12_method_49_code 22 = .ok (.ireturn, 1) := by decide +kernel
theorem d_CM_area_0 : decode prog_1_method_10_code 0 = .ok (.aload_n 0, 1) := by decide +kernel
theorem d_CM_area_1 : decode prog_1_method_10_code 1 = .ok (.getfield 12, 3) := by decide +kernel
theorem d_CM_area_4 : decode prog_1_method_10_code 4 = .ok (.iload_n 1, 1) := by decide +kernel
theorem d_CM_area_5 : decode prog_1_method_10_code 5 = .ok (.invokevirtual 127, 3) := by decide +kernel
theorem d_CM_area_8 : decode prog_1_method_10_code 8 = .ok (.ifCond .eq (19), 3) := by decide +kernel
theorem d_CM_area_27 : decode prog_1_method_10_code 27 = .ok (.ldc 183, 2) := by decide +kernel
theorem d_CM_area_29 : decode prog_1_method_10_code 29 = .ok (.ireturn, 1) := by decide +kernel
theorem d_MD_area_0 : decode prog_12_method_50_code 0 = .ok (.aload_n 0, 1) := by decide +kernel
theorem d_MD_area_1 : decode prog_12_method_50_code 1 = .ok (.iconst 0, 1) := by decide +kernel
theorem d_MD_area_2 : decode prog_12_method_50_code 2 = .ok (.putfield 74, 3) := by decide +kernel
theorem d_MD_area_5 : decode prog_12_method_50_code 5 = .ok (.aload_n 0, 1) := by decide +kernel
theorem d_MD_area_6 : decode prog_12_method_50_code 6 = .ok (.iload_n 1, 1) := by decide +kernel
theorem d_MD_area_7 : decode prog_12_method_50_code 7 = .ok (.invokevirtual 238, 3) := by decide +kernel
theorem d_MD_area_10 : decode prog_12_method_50_code 10 = .ok (.ifCond .eq (29), 3) := by decide +kernel
theorem d_MD_area_39 : decode prog_12_method_50_code 39 = .ok (.ldc_w 265, 3) := by decide +kernel
theorem d_MD_area_42 : decode prog_12_method_50_code 42 = .ok (.ireturn, 1) := by decide +kernel
theorem d_CM_make_0 : decode prog_1_method_11_code 0 = .ok (.aload_n 0, 1) := by decide +kernel
theorem d_CM_make_1 : decode prog_1_method_11_code 1 = .ok (.getfield 12, 3) := by decide +kernel
theorem d_CM_make_4 : decode prog_1_method_11_code 4 = .ok (.iload_n 1, 1) := by decide +kernel
theorem d_CM_make_5 : decode prog_1_method_11_code 5 = .ok (.invokevirtual 127, 3) := by decide +kernel
theorem d_CM_make_8 : decode prog_1_method_11_code 8 = .ok (.ifCond .eq (14), 3) := by decide +kernel
theorem d_CM_make_22 : decode prog_1_method_11_code 22 = .ok (.iconst (-1), 1) := by decide +kernel
theorem d_CM_make_23 : decode prog_1_method_11_code 23 = .ok (.ireturn, 1) := by decide +kernel
theorem d_MD_make_0 : decode prog_12_method_54_code 0 = .ok (.aload_n 0, 1) := by decide +kernel
theorem d_MD_make_1 : decode prog_12_method_54_code 1 = .ok (.iconst 0, 1) := by decide +kernel
theorem d_MD_make_2 : decode prog_12_method_54_code 2 = .ok (.putfield 74, 3) := by decide +kernel
theorem d_MD_make_5 : decode prog_12_method_54_code 5 = .ok (.aload_n 0, 1) := by decide +kernel
theorem d_MD_make_6 : decode prog_12_method_54_code 6 = .ok (.iload_n 1, 1) := by decide +kernel
theorem d_MD_make_7 : decode prog_12_method_54_code 7 = .ok (.invokevirtual 238, 3) := by decide +kernel
theorem d_MD_make_10 : decode prog_12_method_54_code 10 = .ok (.ifCond .eq (11), 3) := by decide +kernel
theorem d_MD_make_21 : decode prog_12_method_54_code 21 = .ok (.iconst (-1), 1) := by decide +kernel
theorem d_MD_make_22 : decode prog_12_method_54_code 22 = .ok (.ireturn, 1) := by decide +kernel
theorem d_CM_square_0 : decode prog_1_method_12_code 0 = .ok (.aload_n 0, 1) := by decide +kernel
theorem d_CM_square_1 : decode prog_1_method_12_code 1 = .ok (.getfield 12, 3) := by decide +kernel
theorem d_CM_square_4 : decode prog_1_method_12_code 4 = .ok (.iload_n 1, 1) := by decide +kernel
theorem d_CM_square_5 : decode prog_1_method_12_code 5 = .ok (.invokevirtual 127, 3) := by decide +kernel
theorem d_CM_square_8 : decode prog_1_method_12_code 8 = .ok (.ifCond .eq (14), 3) := by decide +kernel
theorem d_CM_square_22 : decode prog_1_method_12_code 22 = .ok (.iconst (-1), 1) := by decide +kernel
theorem d_CM_square_23 : decode prog_1_method_12_code 23 = .ok (.ireturn, 1) := by decide +kernel
theorem d_MD_square_0 : decode prog_12_method_55_code 0 = .ok (.aload_n 0, 1) := by decide +kernel
theorem d_MD_square_1 : decode prog_12_method_55_code 1 = .ok (.iconst 0, 1) := by decide +kernel
theorem d_MD_square_2 : decode prog_12_method_55_code 2 = .ok (.putfield 74, 3) := by decide +kernel
theorem d_MD_square_5 : decode prog_12_method_55_code 5 = .ok (.aload_n 0, 1) := by decide +kernel
theorem d_MD_square_6 : decode prog_12_method_55_code 6 = .ok (.iload_n 1, 1) := by decide +kernel
theorem d_MD_square_7 : decode prog_12_method_55_code 7 = .ok (.invokevirtual 238, 3) := by decide +kernel
theorem d_MD_square_10 : decode prog_12_method_55_code 10 = .ok (.ifCond .eq (14), 3) := by decide +kernel
theorem d_MD_square_24 : decode prog_12_method_55_code 24 = .ok (.iconst (-1), 1) := by decide +kernel
theorem d_MD_square_25 : decode prog_12_method_55_code 25 = .ok (.ireturn, 1) := by decide +kernel
theorem d_CM_product_0 : decode prog_1_method_13_code 0 = .ok (.aload_n 0, 1) := by decide +kernel
theorem d_CM_product_1 : decode prog_1_method_13_code 1 = .ok (.getfield 12, 3) := by decide +kernel
theorem d_CM_product_4 : decode prog_1_method_13_code 4 = .ok (.iload_n 1, 1) := by decide +kernel
theorem d_CM_product_5 : decode prog_1_method_13_code 5 = .ok (.invokevirtual 151, 3) := by decide +kernel
theorem d_CM_product_8 : decode prog_1_method_13_code 8 = .ok (.ifCond .eq (14), 3) := by decide +kernel
theorem d_CM_product_22 : decode prog_1_method_13_code 22 = .ok (.iconst (-1), 1) := by decide +kernel
theorem d_CM_product_23 : decode prog_1_method_13_code 23 = .ok (.ireturn, 1) := by decide +kernel
theorem d_MD_product_0 : decode prog_12_method_57_code 0 = .ok (.aload_n 0, 1) := by decide +kernel
theorem d_MD_product_1 : decode prog_12_method_57_code 1 = .ok (.iconst 0, 1) := by decide +kernel
theorem d_MD_product_2 : decode prog_12_method_57_code 2 = .ok (.putfield 74, 3) := by decide +kernel
theorem d_MD_product_5 : decode prog_12_method_57_code 5 = .ok (.aload_n 0, 1) := by decide +kernel
theorem d_MD_product_6 : decode prog_12_method_57_code 6 = .ok (.iload_n 1, 1) := by decide +kernel
theorem d_MD_product_7 : decode prog_12_method_57_code 7 = .ok (.invokevirtual 241, 3) := by decide +kernel
theorem d_MD_product_10 : decode prog_12_method_57_code 10 = .ok (.ifCond .eq (11), 3) := by decide +kernel
theorem d_MD_product_21 : decode prog_12_method_57_code 21 = .ok (.iconst (-1), 1) := by decide +kernel
theorem d_MD_product_22 : decode prog_12_method_57_code 22 = .ok (.ireturn, 1) := by decide +kernel
theorem d_CM_inverse_0 : decode prog_1_method_14_code 0 = .ok (.aload_n 0, 1) := by decide +kernel
theorem d_CM_inverse_1 : decode prog_1_method_14_code 1 = .ok (.getfield 12, 3) := by decide +kernel
theorem d_CM_inverse_4 : decode prog_1_method_14_code 4 = .ok (.iload_n 1, 1) := by decide +kernel
theorem d_CM_inverse_5 : decode prog_1_method_14_code 5 = .ok (.invokevirtual 151, 3) := by decide +kernel
theorem d_CM_inverse_8 : decode prog_1_method_14_code 8 = .ok (.ifCond .ne (5), 3) := by decide +kernel
theorem d_CM_inverse_11 : decode prog_1_method_14_code 11 = .ok (.iconst (-1), 1) := by decide +kernel
theorem d_CM_inverse_12 : decode prog_1_method_14_code 12 = .ok (.ireturn, 1) := by decide +kernel
theorem d_MD_inverse_0 : decode prog_12_method_59_code 0 = .ok (.aload_n 0, 1) := by decide +kernel
theorem d_MD_inverse_1 : decode prog_12_method_59_code 1 = .ok (.iconst 0, 1) := by decide +kernel
theorem d_MD_inverse_2 : decode prog_12_method_59_code 2 = .ok (.putfield 74, 3) := by decide +kernel
theorem d_MD_inverse_5 : decode prog_12_method_59_code 5 = .ok (.aload_n 0, 1) := by decide +kernel
theorem d_MD_inverse_6 : decode prog_12_method_59_code 6 = .ok (.iload_n 1, 1) := by decide +kernel
theorem d_MD_inverse_7 : decode prog_12_method_59_code 7 = .ok (.invokevirtual 241, 3) := by decide +kernel
theorem d_MD_inverse_10 : decode prog_12_method_59_code 10 = .ok (.ifCond .ne (5), 3) := by decide +kernel
theorem d_MD_inverse_13 : decode prog_12_method_59_code 13 = .ok (.iconst (-1), 1) := by decide +kernel
theorem d_MD_inverse_14 : decode prog_12_method_59_code 14 = .ok (.ireturn, 1) := by decide +kernel
theorem d_CM_power_0 : decode prog_1_method_15_code 0 = .ok (.aload_n 0, 1) := by decide +kernel
theorem d_CM_power_1 : decode prog_1_method_15_code 1 = .ok (.getfield 12, 3) := by decide +kernel
theorem d_CM_power_4 : decode prog_1_method_15_code 4 = .ok (.iload_n 1, 1) := by decide +kernel
theorem d_CM_power_5 : decode prog_1_method_15_code 5 = .ok (.invokevirtual 151, 3) := by decide +kernel
theorem d_CM_power_8 : decode prog_1_method_15_code 8 = .ok (.ifCond .eq (13), 3) := by decide +kernel
theorem d_CM_power_21 : decode prog_1_method_15_code 21 = .ok (.iconst (-1), 1) := by decide +kernel
theorem d_CM_power_22 : decode prog_1_method_15_code 22 = .ok (.ireturn, 1) := by decide +kernel
theorem d_MD_power_0 : decode prog_12_method_61_code 0 = .ok (.aload_n 0, 1) := by decide +kernel
theorem d_MD_power_1 : decode prog_12_method_61_code 1 = .ok (.iconst 0, 1) := by decide +kernel
theorem d_MD_power_2 : decode prog_12_method_61_code 2 = .ok (.putfield 74, 3) := by decide +kernel
theorem d_MD_power_5 : decode prog_12_method_61_code 5 = .ok (.aload_n 0, 1) := by decide +kernel
theorem d_MD_power_6 : decode prog_12_method_61_code 6 = .ok (.iload_n 1, 1) := by decide +kernel
theorem d_MD_power_7 : decode prog_12_method_61_code 7 = .ok (.invokevirtual 241, 3) := by decide +kernel
theorem d_MD_power_10 : decode prog_12_method_61_code 10 = .ok (.ifCond .eq (13), 3) := by decide +kernel
theorem d_MD_power_23 : decode prog_12_method_61_code 23 = .ok (.iconst (-1), 1) := by decide +kernel
theorem d_MD_power_24 : decode prog_12_method_61_code 24 = .ok (.ireturn, 1) := by decide +kernel
theorem d_CM_drop_0 : decode prog_1_method_16_code 0 = .ok (.aload_n 0, 1) := by decide +kernel
theorem d_CM_drop_1 : decode prog_1_method_16_code 1 = .ok (.getfield 12, 3) := by decide +kernel
theorem d_CM_drop_4 : decode prog_1_method_16_code 4 = .ok (.iload_n 1, 1) := by decide +kernel
theorem d_CM_drop_5 : decode prog_1_method_16_code 5 = .ok (.invokevirtual 151, 3) := by decide +kernel
theorem d_CM_drop_8 : decode prog_1_method_16_code 8 = .ok (.ifCond .ne (5), 3) := by decide +kernel
theorem d_CM_drop_11 : decode prog_1_method_16_code 11 = .ok (.iconst (-1), 1) := by decide +kernel
theorem d_CM_drop_12 : decode prog_1_method_16_code 12 = .ok (.ireturn, 1) := by decide +kernel
theorem d_MD_drop_0 : decode prog_12_method_62_code 0 = .ok (.aload_n 0, 1) := by decide +kernel
theorem d_MD_drop_1 : decode prog_12_method_62_code 1 = .ok (.iconst 0, 1) := by decide +kernel
theorem d_MD_drop_2 : decode prog_12_method_62_code 2 = .ok (.putfield 74, 3) := by decide +kernel
theorem d_MD_drop_5 : decode prog_12_method_62_code 5 = .ok (.aload_n 0, 1) := by decide +kernel
theorem d_MD_drop_6 : decode prog_12_method_62_code 6 = .ok (.iload_n 1, 1) := by decide +kernel
theorem d_MD_drop_7 : decode prog_12_method_62_code 7 = .ok (.invokevirtual 241, 3) := by decide +kernel
theorem d_MD_drop_10 : decode prog_12_method_62_code 10 = .ok (.ifCond .ne (5), 3) := by decide +kernel
theorem d_MD_drop_13 : decode prog_12_method_62_code 13 = .ok (.iconst (-1), 1) := by decide +kernel
theorem d_MD_drop_14 : decode prog_12_method_62_code 14 = .ok (.ireturn, 1) := by decide +kernel
theorem d_CM_tell_0 : decode prog_1_method_17_code 0 = .ok (.iload_n 1, 1) := by decide +kernel
theorem d_CM_tell_1 : decode prog_1_method_17_code 1 = .ok (.iload_n 2, 1) := by decide +kernel
theorem d_CM_tell_2 : decode prog_1_method_17_code 2 = .ok (.iload_n 3, 1) := by decide +kernel
theorem d_CM_tell_3 : decode prog_1_method_17_code 3 = .ok (.invokestatic 228, 3) := by decide +kernel
theorem d_CM_areNumbers_0 : decode prog_1_method_79_code 0 = .ok (.iload_n 0, 1) := by decide +kernel
theorem d_CM_areNumbers_1 : decode prog_1_method_79_code 1 = .ok (.invokestatic 443, 3) := by decide +kernel
theorem d_CM_isNumber_0 : decode prog_1_method_78_code 0 = .ok (.iload_n 0, 1) := by decide +kernel
theorem d_CM_isNumber_1 : decode prog_1_method_78_code 1 = .ok (.sipush (-9999), 3) := by decide +kernel
theorem d_CM_isNumber_4 : decode prog_1_method_78_code 4 = .ok (.if_icmp .lt (14), 3) := by decide +kernel
theorem d_CM_isNumber_7 : decode prog_1_method_78_code 7 = .ok (.iload_n 0, 1) := by decide +kernel
theorem d_CM_isNumber_8 : decode prog_1_method_78_code 8 = .ok (.sipush (9999), 3) := by decide +kernel
theorem d_CM_isNumber_11 : decode prog_1_method_78_code 11 = .ok (.if_icmp .gt (7), 3) := by decide +kernel
theorem d_CM_isNumber_14 : decode prog_1_method_78_code 14 = .ok (.iconst 1, 1) := by decide +kernel
theorem d_CM_isNumber_15 : decode prog_1_method_78_code 15 = .ok (.goto (4), 3) := by decide +kernel
theorem d_CM_isNumber_18 : decode prog_1_method_78_code 18 = .ok (.iconst 0, 1) := by decide +kernel
theorem d_CM_isNumber_19 : decode prog_1_method_78_code 19 = .ok (.ireturn, 1) := by decide +kernel
theorem d_MD_tell_0 : decode prog_12_method_64_code 0 = .ok (.aload_n 0, 1) := by decide +kernel
theorem d_MD_tell_1 : decode prog_12_method_64_code 1 = .ok (.iconst 0, 1) := by decide +kernel
theorem d_MD_tell_2 : decode prog_12_method_64_code 2 = .ok (.putfield 74, 3) := by decide +kernel
theorem d_MD_tell_5 : decode prog_12_method_64_code 5 = .ok (.iload_n 1, 1) := by decide +kernel
theorem d_MD_tell_6 : decode prog_12_method_64_code 6 = .ok (.invokestatic 289, 3) := by decide +kernel
theorem d_MD_isEdge_0 : decode prog_12_method_63_code 0 = .ok (.iload_n 0, 1) := by decide +kernel
theorem d_MD_isEdge_1 : decode prog_12_method_63_code 1 = .ok (.sipush (-9999), 3) := by decide +kernel
theorem d_MD_isEdge_4 : decode prog_12_method_63_code 4 = .ok (.if_icmp .lt (14), 3) := by decide +kernel
theorem d_MD_isEdge_7 : decode prog_12_method_63_code 7 = .ok (.iload_n 0, 1) := by decide +kernel
theorem d_MD_isEdge_8 : decode prog_12_method_63_code 8 = .ok (.sipush (9999), 3) := by decide +kernel
theorem d_MD_isEdge_11 : decode prog_12_method_63_code 11 = .ok (.if_icmp .gt (7), 3) := by decide +kernel
theorem d_MD_isEdge_14 : decode prog_12_method_63_code 14 = .ok (.iconst 1, 1) := by decide +kernel
theorem d_MD_isEdge_15 : decode prog_12_method_63_code 15 = .ok (.goto (4), 3) := by decide +kernel
theorem d_MD_isEdge_18 : decode prog_12_method_63_code 18 = .ok (.iconst 0, 1) := by decide +kernel
theorem d_MD_isEdge_19 : decode prog_12_method_63_code 19 = .ok (.ireturn, 1) := by decide +kernel
theorem d_CM_moves_0 : decode prog_1_method_18_code 0 = .ok (.aload_n 0, 1) := by decide +kernel
theorem d_CM_moves_1 : decode prog_1_method_18_code 1 = .ok (.getfield 12, 3) := by decide +kernel
theorem d_CM_moves_4 : decode prog_1_method_18_code 4 = .ok (.iload_n 1, 1) := by decide +kernel
theorem d_CM_moves_5 : decode prog_1_method_18_code 5 = .ok (.invokevirtual 151, 3) := by decide +kernel
theorem d_CM_moves_8 : decode prog_1_method_18_code 8 = .ok (.ifCond .ne (5), 3) := by decide +kernel
theorem d_CM_moves_11 : decode prog_1_method_18_code 11 = .ok (.iconst (-1), 1) := by decide +kernel
theorem d_CM_moves_12 : decode prog_1_method_18_code 12 = .ok (.ireturn, 1) := by decide +kernel
theorem d_MD_moves_0 : decode prog_12_method_67_code 0 = .ok (.aload_n 0, 1) := by decide +kernel
theorem d_MD_moves_1 : decode prog_12_method_67_code 1 = .ok (.iconst 0, 1) := by decide +kernel
theorem d_MD_moves_2 : decode prog_12_method_67_code 2 = .ok (.putfield 74, 3) := by decide +kernel
theorem d_MD_moves_5 : decode prog_12_method_67_code 5 = .ok (.aload_n 0, 1) := by decide +kernel
theorem d_MD_moves_6 : decode prog_12_method_67_code 6 = .ok (.iload_n 1, 1) := by decide +kernel
theorem d_MD_moves_7 : decode prog_12_method_67_code 7 = .ok (.invokevirtual 241, 3) := by decide +kernel
theorem d_MD_moves_10 : decode prog_12_method_67_code 10 = .ok (.ifCond .ne (5), 3) := by decide +kernel
theorem d_MD_moves_13 : decode prog_12_method_67_code 13 = .ok (.iconst (-1), 1) := by decide +kernel
theorem d_MD_moves_14 : decode prog_12_method_67_code 14 = .ok (.ireturn, 1) := by decide +kernel
theorem d_CM_undo_0 : decode prog_1_method_19_code 0 = .ok (.aload_n 0, 1) := by decide +kernel
theorem d_CM_undo_1 : decode prog_1_method_19_code 1 = .ok (.getfield 47, 3) := by decide +kernel
theorem d_CM_undo_4 : decode prog_1_method_19_code 4 = .ok (.getfield 260, 3) := by decide +kernel
theorem d_CM_undo_7 : decode prog_1_method_19_code 7 = .ok (.ifCond .ne (5), 3) := by decide +kernel
theorem d_CM_undo_10 : decode prog_1_method_19_code 10 = .ok (.iconst (-1), 1) := by decide +kernel
theorem d_CM_undo_11 : decode prog_1_method_19_code 11 = .ok (.ireturn, 1) := by decide +kernel
theorem d_MD_undo_0 : decode prog_12_method_52_code 0 = .ok (.aload_n 0, 1) := by decide +kernel
theorem d_MD_undo_1 : decode prog_12_method_52_code 1 = .ok (.iconst 0, 1) := by decide +kernel
theorem d_MD_undo_2 : decode prog_12_method_52_code 2 = .ok (.putfield 74, 3) := by decide +kernel
theorem d_MD_undo_5 : decode prog_12_method_52_code 5 = .ok (.aload_n 0, 1) := by decide +kernel
theorem d_MD_undo_6 : decode prog_12_method_52_code 6 = .ok (.getfield 71, 3) := by decide +kernel
theorem d_MD_undo_9 : decode prog_12_method_52_code 9 = .ok (.ifCond .ne (5), 3) := by decide +kernel
theorem d_MD_undo_12 : decode prog_12_method_52_code 12 = .ok (.iconst (-1), 1) := by decide +kernel
theorem d_MD_undo_13 : decode prog_12_method_52_code 13 = .ok (.ireturn, 1) := by decide +kernel
theorem d_CM_image_0 : decode prog_1_method_20_code 0 = .ok (.aload_n 0, 1) := by decide +kernel
theorem d_CM_image_1 : decode prog_1_method_20_code 1 = .ok (.getfield 12, 3) := by decide +kernel
theorem d_CM_image_4 : decode prog_1_method_20_code 4 = .ok (.iload_n 1, 1) := by decide +kernel
theorem d_CM_image_5 : decode prog_1_method_20_code 5 = .ok (.invokevirtual 151, 3) := by decide +kernel
theorem d_CM_image_8 : decode prog_1_method_20_code 8 = .ok (.ifCond .eq (21), 3) := by decide +kernel
theorem d_CM_image_29 : decode prog_1_method_20_code 29 = .ok (.ldc2_w 270, 3) := by decide +kernel
theorem d_CM_image_32 : decode prog_1_method_20_code 32 = .ok (.lreturn, 1) := by decide +kernel
theorem d_MD_image_0 : decode prog_12_method_69_code 0 = .ok (.aload_n 0, 1) := by decide +kernel
theorem d_MD_image_1 : decode prog_12_method_69_code 1 = .ok (.iconst 0, 1) := by decide +kernel
theorem d_MD_image_2 : decode prog_12_method_69_code 2 = .ok (.putfield 74, 3) := by decide +kernel
theorem d_MD_image_5 : decode prog_12_method_69_code 5 = .ok (.aload_n 0, 1) := by decide +kernel
theorem d_MD_image_6 : decode prog_12_method_69_code 6 = .ok (.iload_n 1, 1) := by decide +kernel
theorem d_MD_image_7 : decode prog_12_method_69_code 7 = .ok (.invokevirtual 241, 3) := by decide +kernel
theorem d_MD_image_10 : decode prog_12_method_69_code 10 = .ok (.ifCond .eq (21), 3) := by decide +kernel
theorem d_MD_image_31 : decode prog_12_method_69_code 31 = .ok (.ldc2_w 307, 3) := by decide +kernel
theorem d_MD_image_34 : decode prog_12_method_69_code 34 = .ok (.lreturn, 1) := by decide +kernel
theorem d_CM_before_0 : decode prog_1_method_21_code 0 = .ok (.aload_n 0, 1) := by decide +kernel
theorem d_CM_before_1 : decode prog_1_method_21_code 1 = .ok (.getfield 12, 3) := by decide +kernel
theorem d_CM_before_4 : decode prog_1_method_21_code 4 = .ok (.iload_n 1, 1) := by decide +kernel
theorem d_CM_before_5 : decode prog_1_method_21_code 5 = .ok (.invokevirtual 151, 3) := by decide +kernel
theorem d_CM_before_8 : decode prog_1_method_21_code 8 = .ok (.ifCond .eq (21), 3) := by decide +kernel
theorem d_CM_before_29 : decode prog_1_method_21_code 29 = .ok (.ldc2_w 270, 3) := by decide +kernel
theorem d_CM_before_32 : decode prog_1_method_21_code 32 = .ok (.lreturn, 1) := by decide +kernel
theorem d_MD_before_0 : decode prog_12_method_70_code 0 = .ok (.aload_n 0, 1) := by decide +kernel
theorem d_MD_before_1 : decode prog_12_method_70_code 1 = .ok (.iconst 0, 1) := by decide +kernel
theorem d_MD_before_2 : decode prog_12_method_70_code 2 = .ok (.putfield 74, 3) := by decide +kernel
theorem d_MD_before_5 : decode prog_12_method_70_code 5 = .ok (.aload_n 0, 1) := by decide +kernel
theorem d_MD_before_6 : decode prog_12_method_70_code 6 = .ok (.iload_n 1, 1) := by decide +kernel
theorem d_MD_before_7 : decode prog_12_method_70_code 7 = .ok (.invokevirtual 241, 3) := by decide +kernel
theorem d_MD_before_10 : decode prog_12_method_70_code 10 = .ok (.ifCond .eq (21), 3) := by decide +kernel
theorem d_MD_before_31 : decode prog_12_method_70_code 31 = .ok (.ldc2_w 307, 3) := by decide +kernel
theorem d_MD_before_34 : decode prog_12_method_70_code 34 = .ok (.lreturn, 1) := by decide +kernel
theorem d_CM_line_0 : decode prog_1_method_22_code 0 = .ok (.aload_n 0, 1) := by decide +kernel
theorem d_CM_line_1 : decode prog_1_method_22_code 1 = .ok (.getfield 12, 3) := by decide +kernel
theorem d_CM_line_4 : decode prog_1_method_22_code 4 = .ok (.iload_n 1, 1) := by decide +kernel
theorem d_CM_line_5 : decode prog_1_method_22_code 5 = .ok (.invokevirtual 151, 3) := by decide +kernel
theorem d_CM_line_8 : decode prog_1_method_22_code 8 = .ok (.ifCond .eq (21), 3) := by decide +kernel
theorem d_CM_line_29 : decode prog_1_method_22_code 29 = .ok (.ldc2_w 270, 3) := by decide +kernel
theorem d_CM_line_32 : decode prog_1_method_22_code 32 = .ok (.lreturn, 1) := by decide +kernel
theorem d_MD_line_0 : decode prog_12_method_71_code 0 = .ok (.aload_n 0, 1) := by decide +kernel
theorem d_MD_line_1 : decode prog_12_method_71_code 1 = .ok (.iconst 0, 1) := by decide +kernel
theorem d_MD_line_2 : decode prog_12_method_71_code 2 = .ok (.putfield 74, 3) := by decide +kernel
theorem d_MD_line_5 : decode prog_12_method_71_code 5 = .ok (.aload_n 0, 1) := by decide +kernel
theorem d_MD_line_6 : decode prog_12_method_71_code 6 = .ok (.iload_n 1, 1) := by decide +kernel
theorem d_MD_line_7 : decode prog_12_method_71_code 7 = .ok (.invokevirtual 241, 3) := by decide +kernel
theorem d_MD_line_10 : decode prog_12_method_71_code 10 = .ok (.ifCond .eq (21), 3) := by decide +kernel
theorem d_MD_line_31 : decode prog_12_method_71_code 31 = .ok (.ldc2_w 307, 3) := by decide +kernel
theorem d_MD_line_34 : decode prog_12_method_71_code 34 = .ok (.lreturn, 1) := by decide +kernel
theorem d_CM_horizon_0 : decode prog_1_method_23_code 0 = .ok (.aload_n 0, 1) := by decide +kernel
theorem d_CM_horizon_1 : decode prog_1_method_23_code 1 = .ok (.getfield 12, 3) := by decide +kernel
theorem d_CM_horizon_4 : decode prog_1_method_23_code 4 = .ok (.iload_n 1, 1) := by decide +kernel
theorem d_CM_horizon_5 : decode prog_1_method_23_code 5 = .ok (.invokevirtual 151, 3) := by decide +kernel
theorem d_CM_horizon_8 : decode prog_1_method_23_code 8 = .ok (.ifCond .eq (10), 3) := by decide +kernel
theorem d_CM_horizon_18 : decode prog_1_method_23_code 18 = .ok (.ldc2_w 270, 3) := by decide +kernel
theorem d_CM_horizon_21 : decode prog_1_method_23_code 21 = .ok (.lreturn, 1) := by decide +kernel
theorem d_MD_horizon_0 : decode prog_12_method_72_code 0 = .ok (.aload_n 0, 1) := by decide +kernel
theorem d_MD_horizon_1 : decode prog_12_method_72_code 1 = .ok (.iconst 0, 1) := by decide +kernel
theorem d_MD_horizon_2 : decode prog_12_method_72_code 2 = .ok (.putfield 74, 3) := by decide +kernel
theorem d_MD_horizon_5 : decode prog_12_method_72_code 5 = .ok (.aload_n 0, 1) := by decide +kernel
theorem d_MD_horizon_6 : decode prog_12_method_72_code 6 = .ok (.iload_n 1, 1) := by decide +kernel
theorem d_MD_horizon_7 : decode prog_12_method_72_code 7 = .ok (.invokevirtual 241, 3) := by decide +kernel
theorem d_MD_horizon_10 : decode prog_12_method_72_code 10 = .ok (.ifCond .eq (10), 3) := by decide +kernel
theorem d_MD_horizon_20 : decode prog_12_method_72_code 20 = .ok (.ldc2_w 307, 3) := by decide +kernel
theorem d_MD_horizon_23 : decode prog_12_method_72_code 23 = .ok (.lreturn, 1) := by decide +kernel
theorem d_CM_vanishing_0 : decode prog_1_method_24_code 0 = .ok (.aload_n 0, 1) := by decide +kernel
theorem d_CM_vanishing_1 : decode prog_1_method_24_code 1 = .ok (.getfield 12, 3) := by decide +kernel
theorem d_CM_vanishing_4 : decode prog_1_method_24_code 4 = .ok (.iload_n 1, 1) := by decide +kernel
theorem d_CM_vanishing_5 : decode prog_1_method_24_code 5 = .ok (.invokevirtual 151, 3) := by decide +kernel
theorem d_CM_vanishing_8 : decode prog_1_method_24_code 8 = .ok (.ifCond .eq (10), 3) := by decide +kernel
theorem d_CM_vanishing_18 : decode prog_1_method_24_code 18 = .ok (.ldc2_w 270, 3) := by decide +kernel
theorem d_CM_vanishing_21 : decode prog_1_method_24_code 21 = .ok (.lreturn, 1) := by decide +kernel
theorem d_MD_vanishing_0 : decode prog_12_method_73_code 0 = .ok (.aload_n 0, 1) := by decide +kernel
theorem d_MD_vanishing_1 : decode prog_12_method_73_code 1 = .ok (.iconst 0, 1) := by decide +kernel
theorem d_MD_vanishing_2 : decode prog_12_method_73_code 2 = .ok (.putfield 74, 3) := by decide +kernel
theorem d_MD_vanishing_5 : decode prog_12_method_73_code 5 = .ok (.aload_n 0, 1) := by decide +kernel
theorem d_MD_vanishing_6 : decode prog_12_method_73_code 6 = .ok (.iload_n 1, 1) := by decide +kernel
theorem d_MD_vanishing_7 : decode prog_12_method_73_code 7 = .ok (.invokevirtual 241, 3) := by decide +kernel
theorem d_MD_vanishing_10 : decode prog_12_method_73_code 10 = .ok (.ifCond .eq (10), 3) := by decide +kernel
theorem d_MD_vanishing_20 : decode prog_12_method_73_code 20 = .ok (.ldc2_w 307, 3) := by decide +kernel
theorem d_MD_vanishing_23 : decode prog_12_method_73_code 23 = .ok (.lreturn, 1) := by decide +kernel
theorem d_CM_cut_0 : decode prog_1_method_25_code 0 = .ok (.aload_n 0, 1) := by decide +kernel
theorem d_CM_cut_1 : decode prog_1_method_25_code 1 = .ok (.getfield 12, 3) := by decide +kernel
theorem d_CM_cut_4 : decode prog_1_method_25_code 4 = .ok (.iload_n 1, 1) := by decide +kernel
theorem d_CM_cut_5 : decode prog_1_method_25_code 5 = .ok (.invokevirtual 151, 3) := by decide +kernel
theorem d_CM_cut_8 : decode prog_1_method_25_code 8 = .ok (.ifCond .eq (25), 3) := by decide +kernel
theorem d_CM_cut_33 : decode prog_1_method_25_code 33 = .ok (.iconst (-1), 1) := by decide +kernel
theorem d_CM_cut_34 : decode prog_1_method_25_code 34 = .ok (.ireturn, 1) := by decide +kernel
theorem d_MD_cut_0 : decode prog_12_method_75_code 0 = .ok (.aload_n 0, 1) := by decide +kernel
theorem d_MD_cut_1 : decode prog_12_method_75_code 1 = .ok (.iconst 0, 1) := by decide +kernel
theorem d_MD_cut_2 : decode prog_12_method_75_code 2 = .ok (.putfield 74, 3) := by decide +kernel
theorem d_MD_cut_5 : decode prog_12_method_75_code 5 = .ok (.aload_n 0, 1) := by decide +kernel
theorem d_MD_cut_6 : decode prog_12_method_75_code 6 = .ok (.iload_n 1, 1) := by decide +kernel
theorem d_MD_cut_7 : decode prog_12_method_75_code 7 = .ok (.invokevirtual 241, 3) := by decide +kernel
theorem d_MD_cut_10 : decode prog_12_method_75_code 10 = .ok (.ifCond .eq (19), 3) := by decide +kernel
theorem d_MD_cut_29 : decode prog_12_method_75_code 29 = .ok (.iconst (-1), 1) := by decide +kernel
theorem d_MD_cut_30 : decode prog_12_method_75_code 30 = .ok (.ireturn, 1) := by decide +kernel
theorem d_CM_cutSides_0 : decode prog_1_method_26_code 0 = .ok (.aload_n 0, 1) := by decide +kernel
theorem d_CM_cutSides_1 : decode prog_1_method_26_code 1 = .ok (.getfield 12, 3) := by decide +kernel
theorem d_CM_cutSides_4 : decode prog_1_method_26_code 4 = .ok (.iload_n 1, 1) := by decide +kernel
theorem d_CM_cutSides_5 : decode prog_1_method_26_code 5 = .ok (.invokevirtual 151, 3) := by decide +kernel
theorem d_CM_cutSides_8 : decode prog_1_method_26_code 8 = .ok (.ifCond .eq (14), 3) := by decide +kernel
theorem d_CM_cutSides_22 : decode prog_1_method_26_code 22 = .ok (.iconst (-1), 1) := by decide +kernel
theorem d_CM_cutSides_23 : decode prog_1_method_26_code 23 = .ok (.ireturn, 1) := by decide +kernel
theorem d_MD_cutSides_0 : decode prog_12_method_77_code 0 = .ok (.aload_n 0, 1) := by decide +kernel
theorem d_MD_cutSides_1 : decode prog_12_method_77_code 1 = .ok (.iconst 0, 1) := by decide +kernel
theorem d_MD_cutSides_2 : decode prog_12_method_77_code 2 = .ok (.putfield 74, 3) := by decide +kernel
theorem d_MD_cutSides_5 : decode prog_12_method_77_code 5 = .ok (.aload_n 0, 1) := by decide +kernel
theorem d_MD_cutSides_6 : decode prog_12_method_77_code 6 = .ok (.iload_n 1, 1) := by decide +kernel
theorem d_MD_cutSides_7 : decode prog_12_method_77_code 7 = .ok (.invokevirtual 241, 3) := by decide +kernel
theorem d_MD_cutSides_10 : decode prog_12_method_77_code 10 = .ok (.ifCond .eq (11), 3) := by decide +kernel
theorem d_MD_cutSides_21 : decode prog_12_method_77_code 21 = .ok (.iconst (-1), 1) := by decide +kernel
theorem d_MD_cutSides_22 : decode prog_12_method_77_code 22 = .ok (.ireturn, 1) := by decide +kernel
theorem d_CM_kind_0 : decode prog_1_method_27_code 0 = .ok (.aload_n 0, 1) := by decide +kernel
theorem d_CM_kind_1 : decode prog_1_method_27_code 1 = .ok (.getfield 12, 3) := by decide +kernel
theorem d_CM_kind_4 : decode prog_1_method_27_code 4 = .ok (.iload_n 1, 1) := by decide +kernel
theorem d_CM_kind_5 : decode prog_1_method_27_code 5 = .ok (.invokevirtual 151, 3) := by decide +kernel
theorem d_CM_kind_8 : decode prog_1_method_27_code 8 = .ok (.ifCond .eq (18), 3) := by decide +kernel
theorem d_CM_kind_26 : decode prog_1_method_27_code 26 = .ok (.iconst (-1), 1) := by decide +kernel
theorem d_CM_kind_27 : decode prog_1_method_27_code 27 = .ok (.ireturn, 1) := by decide +kernel
theorem d_MD_kind_0 : decode prog_12_method_79_code 0 = .ok (.aload_n 0, 1) := by decide +kernel
theorem d_MD_kind_1 : decode prog_12_method_79_code 1 = .ok (.iconst 0, 1) := by decide +kernel
theorem d_MD_kind_2 : decode prog_12_method_79_code 2 = .ok (.putfield 74, 3) := by decide +kernel
theorem d_MD_kind_5 : decode prog_12_method_79_code 5 = .ok (.aload_n 0, 1) := by decide +kernel
theorem d_MD_kind_6 : decode prog_12_method_79_code 6 = .ok (.iload_n 1, 1) := by decide +kernel
theorem d_MD_kind_7 : decode prog_12_method_79_code 7 = .ok (.invokevirtual 241, 3) := by decide +kernel
theorem d_MD_kind_10 : decode prog_12_method_79_code 10 = .ok (.ifCond .ne (5), 3) := by decide +kernel
theorem d_MD_kind_13 : decode prog_12_method_79_code 13 = .ok (.iconst (-1), 1) := by decide +kernel
theorem d_MD_kind_14 : decode prog_12_method_79_code 14 = .ok (.ireturn, 1) := by decide +kernel
theorem d_CM_turn_0 : decode prog_1_method_28_code 0 = .ok (.aload_n 0, 1) := by decide +kernel
theorem d_CM_turn_1 : decode prog_1_method_28_code 1 = .ok (.getfield 12, 3) := by decide +kernel
theorem d_CM_turn_4 : decode prog_1_method_28_code 4 = .ok (.iload_n 1, 1) := by decide +kernel
theorem d_CM_turn_5 : decode prog_1_method_28_code 5 = .ok (.invokevirtual 151, 3) := by decide +kernel
theorem d_CM_turn_8 : decode prog_1_method_28_code 8 = .ok (.ifCond .ne (5), 3) := by decide +kernel
theorem d_CM_turn_11 : decode prog_1_method_28_code 11 = .ok (.iconst 0, 1) := by decide +kernel
theorem d_CM_turn_12 : decode prog_1_method_28_code 12 = .ok (.ireturn, 1) := by decide +kernel
theorem d_MD_turn_0 : decode prog_12_method_81_code 0 = .ok (.aload_n 0, 1) := by decide +kernel
theorem d_MD_turn_1 : decode prog_12_method_81_code 1 = .ok (.iconst 0, 1) := by decide +kernel
theorem d_MD_turn_2 : decode prog_12_method_81_code 2 = .ok (.putfield 74, 3) := by decide +kernel
theorem d_MD_turn_5 : decode prog_12_method_81_code 5 = .ok (.aload_n 0, 1) := by decide +kernel
theorem d_MD_turn_6 : decode prog_12_method_81_code 6 = .ok (.iload_n 1, 1) := by decide +kernel
theorem d_MD_turn_7 : decode prog_12_method_81_code 7 = .ok (.invokevirtual 241, 3) := by decide +kernel
theorem d_MD_turn_10 : decode prog_12_method_81_code 10 = .ok (.ifCond .ne (5), 3) := by decide +kernel
theorem d_MD_turn_13 : decode prog_12_method_81_code 13 = .ok (.iconst 0, 1) := by decide +kernel
theorem d_MD_turn_14 : decode prog_12_method_81_code 14 = .ok (.ireturn, 1) := by decide +kernel
theorem d_CM_order_0 : decode prog_1_method_29_code 0 = .ok (.aload_n 0, 1) := by decide +kernel
theorem d_CM_order_1 : decode prog_1_method_29_code 1 = .ok (.getfield 12, 3) := by decide +kernel
theorem d_CM_order_4 : decode prog_1_method_29_code 4 = .ok (.iload_n 1, 1) := by decide +kernel
theorem d_CM_order_5 : decode prog_1_method_29_code 5 = .ok (.invokevirtual 151, 3) := by decide +kernel
theorem d_CM_order_8 : decode prog_1_method_29_code 8 = .ok (.ifCond .ne (5), 3) := by decide +kernel
theorem d_CM_order_11 : decode prog_1_method_29_code 11 = .ok (.iconst (-1), 1) := by decide +kernel
theorem d_CM_order_12 : decode prog_1_method_29_code 12 = .ok (.ireturn, 1) := by decide +kernel
theorem d_MD_order_0 : decode prog_12_method_82_code 0 = .ok (.aload_n 0, 1) := by decide +kernel
theorem d_MD_order_1 : decode prog_12_method_82_code 1 = .ok (.iconst 0, 1) := by decide +kernel
theorem d_MD_order_2 : decode prog_12_method_82_code 2 = .ok (.putfield 74, 3) := by decide +kernel
theorem d_MD_order_5 : decode prog_12_method_82_code 5 = .ok (.aload_n 0, 1) := by decide +kernel
theorem d_MD_order_6 : decode prog_12_method_82_code 6 = .ok (.iload_n 1, 1) := by decide +kernel
theorem d_MD_order_7 : decode prog_12_method_82_code 7 = .ok (.invokevirtual 241, 3) := by decide +kernel
theorem d_MD_order_10 : decode prog_12_method_82_code 10 = .ok (.ifCond .ne (5), 3) := by decide +kernel
theorem d_MD_order_13 : decode prog_12_method_82_code 13 = .ok (.iconst (-1), 1) := by decide +kernel
theorem d_MD_order_14 : decode prog_12_method_82_code 14 = .ok (.ireturn, 1) := by decide +kernel
theorem d_CM_same_0 : decode prog_1_method_30_code 0 = .ok (.aload_n 0, 1) := by decide +kernel
theorem d_CM_same_1 : decode prog_1_method_30_code 1 = .ok (.getfield 12, 3) := by decide +kernel
theorem d_CM_same_4 : decode prog_1_method_30_code 4 = .ok (.iload_n 1, 1) := by decide +kernel
theorem d_CM_same_5 : decode prog_1_method_30_code 5 = .ok (.invokevirtual 151, 3) := by decide +kernel
theorem d_CM_same_8 : decode prog_1_method_30_code 8 = .ok (.ifCond .eq (14), 3) := by decide +kernel
theorem d_CM_same_22 : decode prog_1_method_30_code 22 = .ok (.iconst (-1), 1) := by decide +kernel
theorem d_CM_same_23 : decode prog_1_method_30_code 23 = .ok (.ireturn, 1) := by decide +kernel
theorem d_MD_same_0 : decode prog_12_method_83_code 0 = .ok (.aload_n 0, 1) := by decide +kernel
theorem d_MD_same_1 : decode prog_12_method_83_code 1 = .ok (.iconst 0, 1) := by decide +kernel
theorem d_MD_same_2 : decode prog_12_method_83_code 2 = .ok (.putfield 74, 3) := by decide +kernel
theorem d_MD_same_5 : decode prog_12_method_83_code 5 = .ok (.aload_n 0, 1) := by decide +kernel
theorem d_MD_same_6 : decode prog_12_method_83_code 6 = .ok (.iload_n 1, 1) := by decide +kernel
theorem d_MD_same_7 : decode prog_12_method_83_code 7 = .ok (.invokevirtual 241, 3) := by decide +kernel
theorem d_MD_same_10 : decode prog_12_method_83_code 10 = .ok (.ifCond .eq (11), 3) := by decide +kernel
theorem d_MD_same_21 : decode prog_12_method_83_code 21 = .ok (.iconst (-1), 1) := by decide +kernel
theorem d_MD_same_22 : decode prog_12_method_83_code 22 = .ok (.ireturn, 1) := by decide +kernel
theorem d_CM_commute_0 : decode prog_1_method_31_code 0 = .ok (.aload_n 0, 1) := by decide +kernel
theorem d_CM_commute_1 : decode prog_1_method_31_code 1 = .ok (.getfield 12, 3) := by decide +kernel
theorem d_CM_commute_4 : decode prog_1_method_31_code 4 = .ok (.iload_n 1, 1) := by decide +kernel
theorem d_CM_commute_5 : decode prog_1_method_31_code 5 = .ok (.invokevirtual 151, 3) := by decide +kernel
theorem d_CM_commute_8 : decode prog_1_method_31_code 8 = .ok (.ifCond .eq (14), 3) := by decide +kernel
theorem d_CM_commute_22 : decode prog_1_method_31_code 22 = .ok (.iconst (-1), 1) := by decide +kernel
theorem d_CM_commute_23 : decode prog_1_method_31_code 23 = .ok (.ireturn, 1) := by decide +kernel
theorem d_MD_commute_0 : decode prog_12_method_85_code 0 = .ok (.aload_n 0, 1) := by decide +kernel
theorem d_MD_commute_1 : decode prog_12_method_85_code 1 = .ok (.iconst 0, 1) := by decide +kernel
theorem d_MD_commute_2 : decode prog_12_method_85_code 2 = .ok (.putfield 74, 3) := by decide +kernel
theorem d_MD_commute_5 : decode prog_12_method_85_code 5 = .ok (.aload_n 0, 1) := by decide +kernel
theorem d_MD_commute_6 : decode prog_12_method_85_code 6 = .ok (.iload_n 1, 1) := by decide +kernel
theorem d_MD_commute_7 : decode prog_12_method_85_code 7 = .ok (.invokevirtual 241, 3) := by decide +kernel
theorem d_MD_commute_10 : decode prog_12_method_85_code 10 = .ok (.ifCond .eq (11), 3) := by decide +kernel
theorem d_MD_commute_21 : decode prog_12_method_85_code 21 = .ok (.iconst (-1), 1) := by decide +kernel
theorem d_MD_commute_22 : decode prog_12_method_85_code 22 = .ok (.ireturn, 1) := by decide +kernel
theorem d_CM_undoes_0 : decode prog_1_method_32_code 0 = .ok (.aload_n 0, 1) := by decide +kernel
theorem d_CM_undoes_1 : decode prog_1_method_32_code 1 = .ok (.getfield 12, 3) := by decide +kernel
theorem d_CM_undoes_4 : decode prog_1_method_32_code 4 = .ok (.iload_n 1, 1) := by decide +kernel
theorem d_CM_undoes_5 : decode prog_1_method_32_code 5 = .ok (.invokevirtual 151, 3) := by decide +kernel
theorem d_CM_undoes_8 : decode prog_1_method_32_code 8 = .ok (.ifCond .eq (14), 3) := by decide +kernel
theorem d_CM_undoes_22 : decode prog_1_method_32_code 22 = .ok (.iconst (-1), 1) := by decide +kernel
theorem d_CM_undoes_23 : decode prog_1_method_32_code 23 = .ok (.ireturn, 1) := by decide +kernel
theorem d_MD_undoes_0 : decode prog_12_method_86_code 0 = .ok (.aload_n 0, 1) := by decide +kernel
theorem d_MD_undoes_1 : decode prog_12_method_86_code 1 = .ok (.iconst 0, 1) := by decide +kernel
theorem d_MD_undoes_2 : decode prog_12_method_86_code 2 = .ok (.putfield 74, 3) := by decide +kernel
theorem d_MD_undoes_5 : decode prog_12_method_86_code 5 = .ok (.aload_n 0, 1) := by decide +kernel
theorem d_MD_undoes_6 : decode prog_12_method_86_code 6 = .ok (.iload_n 1, 1) := by decide +kernel
theorem d_MD_undoes_7 : decode prog_12_method_86_code 7 = .ok (.invokevirtual 241, 3) := by decide +kernel
theorem d_MD_undoes_10 : decode prog_12_method_86_code 10 = .ok (.ifCond .eq (11), 3) := by decide +kernel
theorem d_MD_undoes_21 : decode prog_12_method_86_code 21 = .ok (.iconst (-1), 1) := by decide +kernel
theorem d_MD_undoes_22 : decode prog_12_method_86_code 22 = .ok (.ireturn, 1) := by decide +kernel
theorem d_CM_stays_0 : decode prog_1_method_33_code 0 = .ok (.aload_n 0, 1) := by decide +kernel
theorem d_CM_stays_1 : decode prog_1_method_33_code 1 = .ok (.getfield 12, 3) := by decide +kernel
theorem d_CM_stays_4 : decode prog_1_method_33_code 4 = .ok (.iload_n 1, 1) := by decide +kernel
theorem d_CM_stays_5 : decode prog_1_method_33_code 5 = .ok (.invokevirtual 151, 3) := by decide +kernel
theorem d_CM_stays_8 : decode prog_1_method_33_code 8 = .ok (.ifCond .eq (14), 3) := by decide +kernel
theorem d_CM_stays_22 : decode prog_1_method_33_code 22 = .ok (.iconst (-1), 1) := by decide +kernel
theorem d_CM_stays_23 : decode prog_1_method_33_code 23 = .ok (.ireturn, 1) := by decide +kernel
theorem d_MD_stays_0 : decode prog_12_method_88_code 0 = .ok (.aload_n 0, 1) := by decide +kernel
theorem d_MD_stays_1 : decode prog_12_method_88_code 1 = .ok (.iconst 0, 1) := by decide +kernel
theorem d_MD_stays_2 : decode prog_12_method_88_code 2 = .ok (.putfield 74, 3) := by decide +kernel
theorem d_MD_stays_5 : decode prog_12_method_88_code 5 = .ok (.aload_n 0, 1) := by decide +kernel
theorem d_MD_stays_6 : decode prog_12_method_88_code 6 = .ok (.iload_n 1, 1) := by decide +kernel
theorem d_MD_stays_7 : decode prog_12_method_88_code 7 = .ok (.invokevirtual 241, 3) := by decide +kernel
theorem d_MD_stays_10 : decode prog_12_method_88_code 10 = .ok (.ifCond .eq (11), 3) := by decide +kernel
theorem d_MD_stays_21 : decode prog_12_method_88_code 21 = .ok (.iconst (-1), 1) := by decide +kernel
theorem d_MD_stays_22 : decode prog_12_method_88_code 22 = .ok (.ireturn, 1) := by decide +kernel
theorem d_CM_points_0 : decode prog_1_method_34_code 0 = .ok (.aload_n 0, 1) := by decide +kernel
theorem d_CM_points_1 : decode prog_1_method_34_code 1 = .ok (.getfield 12, 3) := by decide +kernel
theorem d_CM_points_4 : decode prog_1_method_34_code 4 = .ok (.iload_n 1, 1) := by decide +kernel
theorem d_CM_points_5 : decode prog_1_method_34_code 5 = .ok (.invokevirtual 151, 3) := by decide +kernel
theorem d_CM_points_8 : decode prog_1_method_34_code 8 = .ok (.ifCond .eq (10), 3) := by decide +kernel
theorem d_CM_points_18 : decode prog_1_method_34_code 18 = .ok (.iconst (-1), 1) := by decide +kernel
theorem d_CM_points_19 : decode prog_1_method_34_code 19 = .ok (.ireturn, 1) := by decide +kernel
theorem d_MD_points_0 : decode prog_12_method_89_code 0 = .ok (.aload_n 0, 1) := by decide +kernel
theorem d_MD_points_1 : decode prog_12_method_89_code 1 = .ok (.iconst 0, 1) := by decide +kernel
theorem d_MD_points_2 : decode prog_12_method_89_code 2 = .ok (.putfield 74, 3) := by decide +kernel
theorem d_MD_points_5 : decode prog_12_method_89_code 5 = .ok (.aload_n 0, 1) := by decide +kernel
theorem d_MD_points_6 : decode prog_12_method_89_code 6 = .ok (.iload_n 1, 1) := by decide +kernel
theorem d_MD_points_7 : decode prog_12_method_89_code 7 = .ok (.invokevirtual 241, 3) := by decide +kernel
theorem d_MD_points_10 : decode prog_12_method_89_code 10 = .ok (.ifCond .eq (10), 3) := by decide +kernel
theorem d_MD_points_20 : decode prog_12_method_89_code 20 = .ok (.iconst (-1), 1) := by decide +kernel
theorem d_MD_points_21 : decode prog_12_method_89_code 21 = .ok (.ireturn, 1) := by decide +kernel
theorem d_CM_join_0 : decode prog_1_method_35_code 0 = .ok (.aload_n 0, 1) := by decide +kernel
theorem d_CM_join_1 : decode prog_1_method_35_code 1 = .ok (.getfield 12, 3) := by decide +kernel
theorem d_CM_join_4 : decode prog_1_method_35_code 4 = .ok (.iload_n 1, 1) := by decide +kernel
theorem d_CM_join_5 : decode prog_1_method_35_code 5 = .ok (.invokevirtual 160, 3) := by decide +kernel
theorem d_CM_join_8 : decode prog_1_method_35_code 8 = .ok (.ifCond .eq (21), 3) := by decide +kernel
theorem d_CM_join_29 : decode prog_1_method_35_code 29 = .ok (.ldc2_w 270, 3) := by decide +kernel
theorem d_CM_join_32 : decode prog_1_method_35_code 32 = .ok (.lreturn, 1) := by decide +kernel
theorem d_MD_join_0 : decode prog_12_method_93_code 0 = .ok (.aload_n 0, 1) := by decide +kernel
theorem d_MD_join_1 : decode prog_12_method_93_code 1 = .ok (.iconst 0, 1) := by decide +kernel
theorem d_MD_join_2 : decode prog_12_method_93_code 2 = .ok (.putfield 74, 3) := by decide +kernel
theorem d_MD_join_5 : decode prog_12_method_93_code 5 = .ok (.aload_n 0, 1) := by decide +kernel
theorem d_MD_join_6 : decode prog_12_method_93_code 6 = .ok (.iload_n 1, 1) := by decide +kernel
theorem d_MD_join_7 : decode prog_12_method_93_code 7 = .ok (.invokevirtual 247, 3) := by decide +kernel
theorem d_MD_join_10 : decode prog_12_method_93_code 10 = .ok (.ifCond .eq (18), 3) := by decide +kernel
theorem d_MD_join_28 : decode prog_12_method_93_code 28 = .ok (.ldc2_w 307, 3) := by decide +kernel
theorem d_MD_join_31 : decode prog_12_method_93_code 31 = .ok (.lreturn, 1) := by decide +kernel
theorem d_CM_inLine_0 : decode prog_1_method_36_code 0 = .ok (.aload_n 0, 1) := by decide +kernel
theorem d_CM_inLine_1 : decode prog_1_method_36_code 1 = .ok (.getfield 12, 3) := by decide +kernel
theorem d_CM_inLine_4 : decode prog_1_method_36_code 4 = .ok (.iload_n 1, 1) := by decide +kernel
theorem d_CM_inLine_5 : decode prog_1_method_36_code 5 = .ok (.invokevirtual 160, 3) := by decide +kernel
theorem d_CM_inLine_8 : decode prog_1_method_36_code 8 = .ok (.ifCond .eq (25), 3) := by decide +kernel
theorem d_CM_inLine_33 : decode prog_1_method_36_code 33 = .ok (.iconst (-1), 1) := by decide +kernel
theorem d_CM_inLine_34 : decode prog_1_method_36_code 34 = .ok (.ireturn, 1) := by decide +kernel
theorem d_MD_inLine_0 : decode prog_12_method_95_code 0 = .ok (.aload_n 0, 1) := by decide +kernel
theorem d_MD_inLine_1 : decode prog_12_method_95_code 1 = .ok (.iconst 0, 1) := by decide +kernel
theorem d_MD_inLine_2 : decode prog_12_method_95_code 2 = .ok (.putfield 74, 3) := by decide +kernel
theorem d_MD_inLine_5 : decode prog_12_method_95_code 5 = .ok (.aload_n 0, 1) := by decide +kernel
theorem d_MD_inLine_6 : decode prog_12_method_95_code 6 = .ok (.iload_n 1, 1) := by decide +kernel
theorem d_MD_inLine_7 : decode prog_12_method_95_code 7 = .ok (.invokevirtual 247, 3) := by decide +kernel
theorem d_MD_inLine_10 : decode prog_12_method_95_code 10 = .ok (.ifCond .eq (19), 3) := by decide +kernel
theorem d_MD_inLine_29 : decode prog_12_method_95_code 29 = .ok (.iconst (-1), 1) := by decide +kernel
theorem d_MD_inLine_30 : decode prog_12_method_95_code 30 = .ok (.ireturn, 1) := by decide +kernel
theorem d_CM_meet_0 : decode prog_1_method_37_code 0 = .ok (.aload_n 0, 1) := by decide +kernel
theorem d_CM_meet_1 : decode prog_1_method_37_code 1 = .ok (.iload_n 1, 1) := by decide +kernel
theorem d_CM_meet_2 : decode prog_1_method_37_code 2 = .ok (.iload_n 2, 1) := by decide +kernel
theorem d_CM_meet_3 : decode prog_1_method_37_code 3 = .ok (.iload_n 3, 1) := by decide +kernel
theorem d_CM_meet_4 : decode prog_1_method_37_code 4 = .ok (.iload 4, 2) := by decide +kernel
theorem d_CM_meet_6 : decode prog_1_method_37_code 6 = .ok (.invokevirtual 330, 3) := by decide +kernel
theorem d_CM_meet_9 : decode prog_1_method_37_code 9 = .ok (.ifCond .eq (11), 3) := by decide +kernel
theorem d_CM_meet_20 : decode prog_1_method_37_code 20 = .ok (.ldc2_w 270, 3) := by decide +kernel
theorem d_CM_meet_23 : decode prog_1_method_37_code 23 = .ok (.lreturn, 1) := by decide +kernel
theorem d_CM_arePoints_0 : decode prog_1_method_83_code 0 = .ok (.aload_n 0, 1) := by decide +kernel
theorem d_CM_arePoints_1 : decode prog_1_method_83_code 1 = .ok (.getfield 12, 3) := by decide +kernel
theorem d_CM_arePoints_4 : decode prog_1_method_83_code 4 = .ok (.iload_n 1, 1) := by decide +kernel
theorem d_CM_arePoints_5 : decode prog_1_method_83_code 5 = .ok (.invokevirtual 160, 3) := by decide +kernel
theorem d_CM_arePoints_8 : decode prog_1_method_83_code 8 = .ok (.ifCond .eq (41), 3) := by decide +kernel
theorem d_CM_arePoints_49 : decode prog_1_method_83_code 49 = .ok (.iconst 0, 1) := by decide +kernel
theorem d_CM_arePoints_50 : decode prog_1_method_83_code 50 = .ok (.ireturn, 1) := by decide +kernel
theorem d_MD_meet_0 : decode prog_12_method_96_code 0 = .ok (.aload_n 0, 1) := by decide +kernel
theorem d_MD_meet_1 : decode prog_12_method_96_code 1 = .ok (.iconst 0, 1) := by decide +kernel
theorem d_MD_meet_2 : decode prog_12_method_96_code 2 = .ok (.putfield 74, 3) := by decide +kernel
theorem d_MD_meet_5 : decode prog_12_method_96_code 5 = .ok (.aload_n 0, 1) := by decide +kernel
theorem d_MD_meet_6 : decode prog_12_method_96_code 6 = .ok (.iload_n 1, 1) := by decide +kernel
theorem d_MD_meet_7 : decode prog_12_method_96_code 7 = .ok (.invokevirtual 247, 3) := by decide +kernel
theorem d_MD_meet_10 : decode prog_12_method_96_code 10 = .ok (.ifCond .eq (36), 3) := by decide +kernel
theorem d_MD_meet_46 : decode prog_12_method_96_code 46 = .ok (.ldc2_w 307, 3) := by decide +kernel
theorem d_MD_meet_49 : decode prog_12_method_96_code 49 = .ok (.lreturn, 1) := by decide +kernel
theorem d_CM_share_0 : decode prog_1_method_38_code 0 = .ok (.aload_n 0, 1) := by decide +kernel
theorem d_CM_share_1 : decode prog_1_method_38_code 1 = .ok (.iload_n 1, 1) := by decide +kernel
theorem d_CM_share_2 : decode prog_1_method_38_code 2 = .ok (.iload_n 2, 1) := by decide +kernel
theorem d_CM_share_3 : decode prog_1_method_38_code 3 = .ok (.iload_n 3, 1) := by decide +kernel
theorem d_CM_share_4 : decode prog_1_method_38_code 4 = .ok (.iload 4, 2) := by decide +kernel
theorem d_CM_share_6 : decode prog_1_method_38_code 6 = .ok (.invokevirtual 330, 3) := by decide +kernel
theorem d_CM_share_9 : decode prog_1_method_38_code 9 = .ok (.ifCond .eq (11), 3) := by decide +kernel
theorem d_CM_share_20 : decode prog_1_method_38_code 20 = .ok (.ldc2_w 270, 3) := by decide +kernel
theorem d_CM_share_23 : decode prog_1_method_38_code 23 = .ok (.lreturn, 1) := by decide +kernel
theorem d_MD_share_0 : decode prog_12_method_100_code 0 = .ok (.aload_n 0, 1) := by decide +kernel
theorem d_MD_share_1 : decode prog_12_method_100_code 1 = .ok (.iconst 0, 1) := by decide +kernel
theorem d_MD_share_2 : decode prog_12_method_100_code 2 = .ok (.putfield 74, 3) := by decide +kernel
theorem d_MD_share_5 : decode prog_12_method_100_code 5 = .ok (.aload_n 0, 1) := by decide +kernel
theorem d_MD_share_6 : decode prog_12_method_100_code 6 = .ok (.iload_n 1, 1) := by decide +kernel
theorem d_MD_share_7 : decode prog_12_method_100_code 7 = .ok (.invokevirtual 247, 3) := by decide +kernel
theorem d_MD_share_10 : decode prog_12_method_100_code 10 = .ok (.ifCond .eq (39), 3) := by decide +kernel
theorem d_MD_share_49 : decode prog_12_method_100_code 49 = .ok (.ldc2_w 307, 3) := by decide +kernel
theorem d_MD_share_52 : decode prog_12_method_100_code 52 = .ok (.lreturn, 1) := by decide +kernel
theorem d_CM_fourth_0 : decode prog_1_method_39_code 0 = .ok (.aload_n 0, 1) := by decide +kernel
theorem d_CM_fourth_1 : decode prog_1_method_39_code 1 = .ok (.iload_n 1, 1) := by decide +kernel
theorem d_CM_fourth_2 : decode prog_1_method_39_code 2 = .ok (.iload_n 2, 1) := by decide +kernel
theorem d_CM_fourth_3 : decode prog_1_method_39_code 3 = .ok (.iload_n 3, 1) := by decide +kernel
theorem d_CM_fourth_4 : decode prog_1_method_39_code 4 = .ok (.iload_n 3, 1) := by decide +kernel
theorem d_CM_fourth_5 : decode prog_1_method_39_code 5 = .ok (.invokevirtual 330, 3) := by decide +kernel
theorem d_CM_fourth_8 : decode prog_1_method_39_code 8 = .ok (.ifCond .eq (11), 3) := by decide +kernel
theorem d_CM_fourth_19 : decode prog_1_method_39_code 19 = .ok (.ldc2_w 270, 3) := by decide +kernel
theorem d_CM_fourth_22 : decode prog_1_method_39_code 22 = .ok (.lreturn, 1) := by decide +kernel
theorem d_MD_fourth_0 : decode prog_12_method_101_code 0 = .ok (.aload_n 0, 1) := by decide +kernel
theorem d_MD_fourth_1 : decode prog_12_method_101_code 1 = .ok (.iconst 0, 1) := by decide +kernel
theorem d_MD_fourth_2 : decode prog_12_method_101_code 2 = .ok (.putfield 74, 3) := by decide +kernel
theorem d_MD_fourth_5 : decode prog_12_method_101_code 5 = .ok (.aload_n 0, 1) := by decide +kernel
theorem d_MD_fourth_6 : decode prog_12_method_101_code 6 = .ok (.iload_n 1, 1) := by decide +kernel
theorem d_MD_fourth_7 : decode prog_12_method_101_code 7 = .ok (.invokevirtual 247, 3) := by decide +kernel
theorem d_MD_fourth_10 : decode prog_12_method_101_code 10 = .ok (.ifCond .eq (27), 3) := by decide +kernel
theorem d_MD_fourth_37 : decode prog_12_method_101_code 37 = .ok (.ldc2_w 307, 3) := by decide +kernel
theorem d_MD_fourth_40 : decode prog_12_method_101_code 40 = .ok (.lreturn, 1) := by decide +kernel
theorem d_CM_track_0 : decode prog_1_method_40_code 0 = .ok (.aload_n 0, 1) := by decide +kernel
theorem d_CM_track_1 : decode prog_1_method_40_code 1 = .ok (.getfield 12, 3) := by decide +kernel
theorem d_CM_track_4 : decode prog_1_method_40_code 4 = .ok (.iload_n 1, 1) := by decide +kernel
theorem d_CM_track_5 : decode prog_1_method_40_code 5 = .ok (.invokevirtual 151, 3) := by decide +kernel
theorem d_CM_track_8 : decode prog_1_method_40_code 8 = .ok (.ifCond .eq (32), 3) := by decide +kernel
theorem d_CM_track_40 : decode prog_1_method_40_code 40 = .ok (.ldc2_w 270, 3) := by decide +kernel
theorem d_CM_track_43 : decode prog_1_method_40_code 43 = .ok (.lreturn, 1) := by decide +kernel
theorem d_MD_track_0 : decode prog_12_method_105_code 0 = .ok (.aload_n 0, 1) := by decide +kernel
theorem d_MD_track_1 : decode prog_12_method_105_code 1 = .ok (.iconst 0, 1) := by decide +kernel
theorem d_MD_track_2 : decode prog_12_method_105_code 2 = .ok (.putfield 74, 3) := by decide +kernel
theorem d_MD_track_5 : decode prog_12_method_105_code 5 = .ok (.aload_n 0, 1) := by decide +kernel
theorem d_MD_track_6 : decode prog_12_method_105_code 6 = .ok (.iload_n 1, 1) := by decide +kernel
theorem d_MD_track_7 : decode prog_12_method_105_code 7 = .ok (.invokevirtual 241, 3) := by decide +kernel
theorem d_MD_track_10 : decode prog_12_method_105_code 10 = .ok (.ifCond .eq (29), 3) := by decide +kernel
theorem d_MD_track_39 : decode prog_12_method_105_code 39 = .ok (.ldc2_w 307, 3) := by decide +kernel
theorem d_MD_track_42 : decode prog_12_method_105_code 42 = .ok (.lreturn, 1) := by decide +kernel
theorem d_CM_cycle_0 : decode prog_1_method_41_code 0 = .ok (.aload_n 0, 1) := by decide +kernel
theorem d_CM_cycle_1 : decode prog_1_method_41_code 1 = .ok (.getfield 12, 3) := by decide +kernel
theorem d_CM_cycle_4 : decode prog_1_method_41_code 4 = .ok (.iload_n 1, 1) := by decide +kernel
theorem d_CM_cycle_5 : decode prog_1_method_41_code 5 = .ok (.invokevirtual 151, 3) := by decide +kernel
theorem d_CM_cycle_8 : decode prog_1_method_41_code 8 = .ok (.ifCond .eq (14), 3) := by decide +kernel
theorem d_CM_cycle_22 : decode prog_1_method_41_code 22 = .ok (.iconst (-1), 1) := by decide +kernel
theorem d_CM_cycle_23 : decode prog_1_method_41_code 23 = .ok (.ireturn, 1) := by decide +kernel
theorem d_MD_cycle_0 : decode prog_12_method_106_code 0 = .ok (.aload_n 0, 1) := by decide +kernel
theorem d_MD_cycle_1 : decode prog_12_method_106_code 1 = .ok (.iconst 0, 1) := by decide +kernel
theorem d_MD_cycle_2 : decode prog_12_method_106_code 2 = .ok (.putfield 74, 3) := by decide +kernel
theorem d_MD_cycle_5 : decode prog_12_method_106_code 5 = .ok (.aload_n 0, 1) := by decide +kernel
theorem d_MD_cycle_6 : decode prog_12_method_106_code 6 = .ok (.iload_n 1, 1) := by decide +kernel
theorem d_MD_cycle_7 : decode prog_12_method_106_code 7 = .ok (.invokevirtual 241, 3) := by decide +kernel
theorem d_MD_cycle_10 : decode prog_12_method_106_code 10 = .ok (.ifCond .eq (11), 3) := by decide +kernel
theorem d_MD_cycle_21 : decode prog_12_method_106_code 21 = .ok (.iconst (-1), 1) := by decide +kernel
theorem d_MD_cycle_22 : decode prog_12_method_106_code 22 = .ok (.ireturn, 1) := by decide +kernel
theorem d_CM_whole_0 : decode prog_1_method_42_code 0 = .ok (.aload_n 0, 1) := by decide +kernel
theorem d_CM_whole_1 : decode prog_1_method_42_code 1 = .ok (.getfield 12, 3) := by decide +kernel
theorem d_CM_whole_4 : decode prog_1_method_42_code 4 = .ok (.iload_n 1, 1) := by decide +kernel
theorem d_CM_whole_5 : decode prog_1_method_42_code 5 = .ok (.invokevirtual 151, 3) := by decide +kernel
theorem d_CM_whole_8 : decode prog_1_method_42_code 8 = .ok (.ifCond .eq (13), 3) := by decide +kernel
theorem d_CM_whole_21 : decode prog_1_method_42_code 21 = .ok (.iconst (-1), 1) := by decide +kernel
theorem d_CM_whole_22 : decode prog_1_method_42_code 22 = .ok (.ireturn, 1) := by decide +kernel
theorem d_MD_whole_0 : decode prog_12_method_108_code 0 = .ok (.aload_n 0, 1) := by decide +kernel
theorem d_MD_whole_1 : decode prog_12_method_108_code 1 = .ok (.iconst 0, 1) := by decide +kernel
theorem d_MD_whole_2 : decode prog_12_method_108_code 2 = .ok (.putfield 74, 3) := by decide +kernel
theorem d_MD_whole_5 : decode prog_12_method_108_code 5 = .ok (.aload_n 0, 1) := by decide +kernel
theorem d_MD_whole_6 : decode prog_12_method_108_code 6 = .ok (.iload_n 1, 1) := by decide +kernel
theorem d_MD_whole_7 : decode prog_12_method_108_code 7 = .ok (.invokevirtual 241, 3) := by decide +kernel
theorem d_MD_whole_10 : decode prog_12_method_108_code 10 = .ok (.ifCond .eq (13), 3) := by decide +kernel
theorem d_MD_whole_23 : decode prog_12_method_108_code 23 = .ok (.iconst (-1), 1) := by decide +kernel
theorem d_MD_whole_24 : decode prog_12_method_108_code 24 = .ok (.ireturn, 1) := by decide +kernel
theorem d_CM_inside_0 : decode prog_1_method_43_code 0 = .ok (.aload_n 0, 1) := by decide +kernel
theorem d_CM_inside_1 : decode prog_1_method_43_code 1 = .ok (.getfield 12, 3) := by decide +kernel
theorem d_CM_inside_4 : decode prog_1_method_43_code 4 = .ok (.iload_n 1, 1) := by decide +kernel
theorem d_CM_inside_5 : decode prog_1_method_43_code 5 = .ok (.invokevirtual 127, 3) := by decide +kernel
theorem d_CM_inside_8 : decode prog_1_method_43_code 8 = .ok (.ifCond .eq (14), 3) := by decide +kernel
theorem d_CM_inside_22 : decode prog_1_method_43_code 22 = .ok (.iconst (-1), 1) := by decide +kernel
theorem d_CM_inside_23 : decode prog_1_method_43_code 23 = .ok (.ireturn, 1) := by decide +kernel
theorem d_MD_inside_0 : decode prog_12_method_112_code 0 = .ok (.aload_n 0, 1) := by decide +kernel
theorem d_MD_inside_1 : decode prog_12_method_112_code 1 = .ok (.iconst 0, 1) := by decide +kernel
theorem d_MD_inside_2 : decode prog_12_method_112_code 2 = .ok (.putfield 74, 3) := by decide +kernel
theorem d_MD_inside_5 : decode prog_12_method_112_code 5 = .ok (.aload_n 0, 1) := by decide +kernel
theorem d_MD_inside_6 : decode prog_12_method_112_code 6 = .ok (.iload_n 1, 1) := by decide +kernel
theorem d_MD_inside_7 : decode prog_12_method_112_code 7 = .ok (.invokevirtual 238, 3) := by decide +kernel
theorem d_MD_inside_10 : decode prog_12_method_112_code 10 = .ok (.ifCond .eq (11), 3) := by decide +kernel
theorem d_MD_inside_21 : decode prog_12_method_112_code 21 = .ok (.iconst (-1), 1) := by decide +kernel
theorem d_MD_inside_22 : decode prog_12_method_112_code 22 = .ok (.ireturn, 1) := by decide +kernel
theorem d_CM_crossings_0 : decode prog_1_method_44_code 0 = .ok (.aload_n 0, 1) := by decide +kernel
theorem d_CM_crossings_1 : decode prog_1_method_44_code 1 = .ok (.getfield 12, 3) := by decide +kernel
theorem d_CM_crossings_4 : decode prog_1_method_44_code 4 = .ok (.iload_n 1, 1) := by decide +kernel
theorem d_CM_crossings_5 : decode prog_1_method_44_code 5 = .ok (.invokevirtual 127, 3) := by decide +kernel
theorem d_CM_crossings_8 : decode prog_1_method_44_code 8 = .ok (.ifCond .eq (14), 3) := by decide +kernel
theorem d_CM_crossings_22 : decode prog_1_method_44_code 22 = .ok (.iconst (-1), 1) := by decide +kernel
theorem d_CM_crossings_23 : decode prog_1_method_44_code 23 = .ok (.ireturn, 1) := by decide +kernel
theorem d_MD_crossings_0 : decode prog_12_method_116_code 0 = .ok (.aload_n 0, 1) := by decide +kernel
theorem d_MD_crossings_1 : decode prog_12_method_116_code 1 = .ok (.iconst 0, 1) := by decide +kernel
theorem d_MD_crossings_2 : decode prog_12_method_116_code 2 = .ok (.putfield 74, 3) := by decide +kernel
theorem d_MD_crossings_5 : decode prog_12_method_116_code 5 = .ok (.aload_n 0, 1) := by decide +kernel
theorem d_MD_crossings_6 : decode prog_12_method_116_code 6 = .ok (.iload_n 1, 1) := by decide +kernel
theorem d_MD_crossings_7 : decode prog_12_method_116_code 7 = .ok (.invokevirtual 238, 3) := by decide +kernel
theorem d_MD_crossings_10 : decode prog_12_method_116_code 10 = .ok (.ifCond .eq (11), 3) := by decide +kernel
theorem d_MD_crossings_21 : decode prog_12_method_116_code 21 = .ok (.iconst (-1), 1) := by decide +kernel
theorem d_MD_crossings_22 : decode prog_12_method_116_code 22 = .ok (.ireturn, 1) := by decide +kernel
theorem d_CM_diagonal_0 : decode prog_1_method_45_code 0 = .ok (.aload_n 0, 1) := by decide +kernel
theorem d_CM_diagonal_1 : decode prog_1_method_45_code 1 = .ok (.getfield 12, 3) := by decide +kernel
theorem d_CM_diagonal_4 : decode prog_1_method_45_code 4 = .ok (.iload_n 1, 1) := by decide +kernel
theorem d_CM_diagonal_5 : decode prog_1_method_45_code 5 = .ok (.invokevirtual 127, 3) := by decide +kernel
theorem d_CM_diagonal_8 : decode prog_1_method_45_code 8 = .ok (.ifCond .eq (17), 3) := by decide +kernel
theorem d_CM_diagonal_25 : decode prog_1_method_45_code 25 = .ok (.ldc2_w 270, 3) := by decide +kernel
theorem d_CM_diagonal_28 : decode prog_1_method_45_code 28 = .ok (.lreturn, 1) := by decide +kernel
theorem d_MD_diagonal_0 : decode prog_12_method_119_code 0 = .ok (.aload_n 0, 1) := by decide +kernel
theorem d_MD_diagonal_1 : decode prog_12_method_119_code 1 = .ok (.iconst 0, 1) := by decide +kernel
theorem d_MD_diagonal_2 : decode prog_12_method_119_code 2 = .ok (.putfield 74, 3) := by decide +kernel
theorem d_MD_diagonal_5 : decode prog_12_method_119_code 5 = .ok (.aload_n 0, 1) := by decide +kernel
theorem d_MD_diagonal_6 : decode prog_12_method_119_code 6 = .ok (.iload_n 1, 1) := by decide +kernel
theorem d_MD_diagonal_7 : decode prog_12_method_119_code 7 = .ok (.invokevirtual 238, 3) := by decide +kernel
theorem d_MD_diagonal_10 : decode prog_12_method_119_code 10 = .ok (.ifCond .eq (17), 3) := by decide +kernel
theorem d_MD_diagonal_27 : decode prog_12_method_119_code 27 = .ok (.ldc2_w 307, 3) := by decide +kernel
theorem d_MD_diagonal_30 : decode prog_12_method_119_code 30 = .ok (.lreturn, 1) := by decide +kernel
theorem d_CM_parallel_0 : decode prog_1_method_46_code 0 = .ok (.aload_n 0, 1) := by decide +kernel
theorem d_CM_parallel_1 : decode prog_1_method_46_code 1 = .ok (.getfield 12, 3) := by decide +kernel
theorem d_CM_parallel_4 : decode prog_1_method_46_code 4 = .ok (.iload_n 1, 1) := by decide +kernel
theorem d_CM_parallel_5 : decode prog_1_method_46_code 5 = .ok (.invokevirtual 151, 3) := by decide +kernel
theorem d_CM_parallel_8 : decode prog_1_method_46_code 8 = .ok (.ifCond .eq (14), 3) := by decide +kernel
theorem d_CM_parallel_22 : decode prog_1_method_46_code 22 = .ok (.iconst (-1), 1) := by decide +kernel
theorem d_CM_parallel_23 : decode prog_1_method_46_code 23 = .ok (.ireturn, 1) := by decide +kernel
theorem d_MD_parallel_0 : decode prog_12_method_120_code 0 = .ok (.aload_n 0, 1) := by decide +kernel
theorem d_MD_parallel_1 : decode prog_12_method_120_code 1 = .ok (.iconst 0, 1) := by decide +kernel
theorem d_MD_parallel_2 : decode prog_12_method_120_code 2 = .ok (.putfield 74, 3) := by decide +kernel
theorem d_MD_parallel_5 : decode prog_12_method_120_code 5 = .ok (.aload_n 0, 1) := by decide +kernel
theorem d_MD_parallel_6 : decode prog_12_method_120_code 6 = .ok (.iload_n 1, 1) := by decide +kernel
theorem d_MD_parallel_7 : decode prog_12_method_120_code 7 = .ok (.invokevirtual 241, 3) := by decide +kernel
theorem d_MD_parallel_10 : decode prog_12_method_120_code 10 = .ok (.ifCond .eq (11), 3) := by decide +kernel
theorem d_MD_parallel_21 : decode prog_12_method_120_code 21 = .ok (.iconst (-1), 1) := by decide +kernel
theorem d_MD_parallel_22 : decode prog_12_method_120_code 22 = .ok (.ireturn, 1) := by decide +kernel
theorem d_CM_shapeBy_0 : decode prog_1_method_47_code 0 = .ok (.aload_n 0, 1) := by decide +kernel
theorem d_CM_shapeBy_1 : decode prog_1_method_47_code 1 = .ok (.getfield 12, 3) := by decide +kernel
theorem d_CM_shapeBy_4 : decode prog_1_method_47_code 4 = .ok (.iload_n 1, 1) := by decide +kernel
theorem d_CM_shapeBy_5 : decode prog_1_method_47_code 5 = .ok (.invokevirtual 151, 3) := by decide +kernel
theorem d_CM_shapeBy_8 : decode prog_1_method_47_code 8 = .ok (.ifCond .eq (14), 3) := by decide +kernel
theorem d_CM_shapeBy_22 : decode prog_1_method_47_code 22 = .ok (.iconst (-1), 1) := by decide +kernel
theorem d_CM_shapeBy_23 : decode prog_1_method_47_code 23 = .ok (.ireturn, 1) := by decide +kernel
theorem d_MD_shapeBy_0 : decode prog_12_method_122_code 0 = .ok (.aload_n 0, 1) := by decide +kernel
theorem d_MD_shapeBy_1 : decode prog_12_method_122_code 1 = .ok (.iconst 0, 1) := by decide +kernel
theorem d_MD_shapeBy_2 : decode prog_12_method_122_code 2 = .ok (.putfield 74, 3) := by decide +kernel
theorem d_MD_shapeBy_5 : decode prog_12_method_122_code 5 = .ok (.aload_n 0, 1) := by decide +kernel
theorem d_MD_shapeBy_6 : decode prog_12_method_122_code 6 = .ok (.iload_n 1, 1) := by decide +kernel
theorem d_MD_shapeBy_7 : decode prog_12_method_122_code 7 = .ok (.invokevirtual 241, 3) := by decide +kernel
theorem d_MD_shapeBy_10 : decode prog_12_method_122_code 10 = .ok (.ifCond .eq (11), 3) := by decide +kernel
theorem d_MD_shapeBy_21 : decode prog_12_method_122_code 21 = .ok (.iconst (-1), 1) := by decide +kernel
theorem d_MD_shapeBy_22 : decode prog_12_method_122_code 22 = .ok (.ireturn, 1) := by decide +kernel
theorem d_CM_symmetries_0 : decode prog_1_method_48_code 0 = .ok (.aload_n 0, 1) := by decide +kernel
theorem d_CM_symmetries_1 : decode prog_1_method_48_code 1 = .ok (.getfield 12, 3) := by decide +kernel
theorem d_CM_symmetries_4 : decode prog_1_method_48_code 4 = .ok (.iload_n 1, 1) := by decide +kernel
theorem d_CM_symmetries_5 : decode prog_1_method_48_code 5 = .ok (.invokevirtual 127, 3) := by decide +kernel
theorem d_CM_symmetries_8 : decode prog_1_method_48_code 8 = .ok (.ifCond .eq (10), 3) := by decide +kernel
theorem d_CM_symmetries_18 : decode prog_1_method_48_code 18 = .ok (.iconst (-1), 1) := by decide +kernel
theorem d_CM_symmetries_19 : decode prog_1_method_48_code 19 = .ok (.ireturn, 1) := by decide +kernel
theorem d_MD_symmetries_0 : decode prog_12_method_125_code 0 = .ok (.aload_n 0, 1) := by decide +kernel
theorem d_MD_symmetries_1 : decode prog_12_method_125_code 1 = .ok (.iconst 0, 1) := by decide +kernel
theorem d_MD_symmetries_2 : decode prog_12_method_125_code 2 = .ok (.putfield 74, 3) := by decide +kernel
theorem d_MD_symmetries_5 : decode prog_12_method_125_code 5 = .ok (.aload_n 0, 1) := by decide +kernel
theorem d_MD_symmetries_6 : decode prog_12_method_125_code 6 = .ok (.iload_n 1, 1) := by decide +kernel
theorem d_MD_symmetries_7 : decode prog_12_method_125_code 7 = .ok (.invokevirtual 238, 3) := by decide +kernel
theorem d_MD_symmetries_10 : decode prog_12_method_125_code 10 = .ok (.ifCond .eq (12), 3) := by decide +kernel
theorem d_MD_symmetries_22 : decode prog_12_method_125_code 22 = .ok (.iconst (-1), 1) := by decide +kernel
theorem d_MD_symmetries_23 : decode prog_12_method_125_code 23 = .ok (.ireturn, 1) := by decide +kernel
theorem d_CM_symmetry_0 : decode prog_1_method_49_code 0 = .ok (.aload_n 0, 1) := by decide +kernel
theorem d_CM_symmetry_1 : decode prog_1_method_49_code 1 = .ok (.getfield 12, 3) := by decide +kernel
theorem d_CM_symmetry_4 : decode prog_1_method_49_code 4 = .ok (.iload_n 1, 1) := by decide +kernel
theorem d_CM_symmetry_5 : decode prog_1_method_49_code 5 = .ok (.invokevirtual 127, 3) := by decide +kernel
theorem d_CM_symmetry_8 : decode prog_1_method_49_code 8 = .ok (.ifCond .eq (13), 3) := by decide +kernel
theorem d_CM_symmetry_21 : decode prog_1_method_49_code 21 = .ok (.iconst (-1), 1) := by decide +kernel
theorem d_CM_symmetry_22 : decode prog_1_method_49_code 22 = .ok (.ireturn, 1) := by decide +kernel
theorem d_MD_symmetry_0 : decode prog_12_method_126_code 0 = .ok (.aload_n 0, 1) := by decide +kernel
theorem d_MD_symmetry_1 : decode prog_12_method_126_code 1 = .ok (.iconst 0, 1) := by decide +kernel
theorem d_MD_symmetry_2 : decode prog_12_method_126_code 2 = .ok (.putfield 74, 3) := by decide +kernel
theorem d_MD_symmetry_5 : decode prog_12_method_126_code 5 = .ok (.aload_n 0, 1) := by decide +kernel
theorem d_MD_symmetry_6 : decode prog_12_method_126_code 6 = .ok (.iload_n 1, 1) := by decide +kernel
theorem d_MD_symmetry_7 : decode prog_12_method_126_code 7 = .ok (.invokevirtual 238, 3) := by decide +kernel
theorem d_MD_symmetry_10 : decode prog_12_method_126_code 10 = .ok (.ifCond .eq (13), 3) := by decide +kernel
theorem d_MD_symmetry_23 : decode prog_12_method_126_code 23 = .ok (.iconst (-1), 1) := by decide +kernel
theorem d_MD_symmetry_24 : decode prog_12_method_126_code 24 = .ok (.ireturn, 1) := by decide +kernel
theorem d_CM_word_0 : decode prog_1_method_50_code 0 = .ok (.aload_n 0, 1) := by decide +kernel
theorem d_CM_word_1 : decode prog_1_method_50_code 1 = .ok (.getfield 12, 3) := by decide +kernel
theorem d_CM_word_4 : decode prog_1_method_50_code 4 = .ok (.iload_n 1, 1) := by decide +kernel
theorem d_CM_word_5 : decode prog_1_method_50_code 5 = .ok (.invokevirtual 151, 3) := by decide +kernel
theorem d_CM_word_8 : decode prog_1_method_50_code 8 = .ok (.ifCond .eq (8), 3) := by decide +kernel
theorem d_CM_word_16 : decode prog_1_method_50_code 16 = .ok (.iconst (-1), 1) := by decide +kernel
theorem d_CM_word_17 : decode prog_1_method_50_code 17 = .ok (.ireturn, 1) := by decide +kernel
theorem d_MD_word_0 : decode prog_12_method_130_code 0 = .ok (.aload_n 0, 1) := by decide +kernel
theorem d_MD_word_1 : decode prog_12_method_130_code 1 = .ok (.iconst 0, 1) := by decide +kernel
theorem d_MD_word_2 : decode prog_12_method_130_code 2 = .ok (.putfield 74, 3) := by decide +kernel
theorem d_MD_word_5 : decode prog_12_method_130_code 5 = .ok (.aload_n 0, 1) := by decide +kernel
theorem d_MD_word_6 : decode prog_12_method_130_code 6 = .ok (.iload_n 1, 1) := by decide +kernel
theorem d_MD_word_7 : decode prog_12_method_130_code 7 = .ok (.invokevirtual 241, 3) := by decide +kernel
theorem d_MD_word_10 : decode prog_12_method_130_code 10 = .ok (.ifCond .eq (8), 3) := by decide +kernel
theorem d_MD_word_18 : decode prog_12_method_130_code 18 = .ok (.iconst (-1), 1) := by decide +kernel
theorem d_MD_word_19 : decode prog_12_method_130_code 19 = .ok (.ireturn, 1) := by decide +kernel
theorem d_CM_generated_0 : decode prog_1_method_51_code 0 = .ok (.iload_n 1, 1) := by decide +kernel
theorem d_CM_generated_1 : decode prog_1_method_51_code 1 = .ok (.iconst 1, 1) := by decide +kernel
theorem d_CM_generated_2 : decode prog_1_method_51_code 2 = .ok (.if_icmp .eq (10), 3) := by decide +kernel
theorem d_CM_generated_12 : decode prog_1_method_51_code 12 = .ok (.iload_n 1, 1) := by decide +kernel
theorem d_CM_generated_13 : decode prog_1_method_51_code 13 = .ok (.iconst 2, 1) := by decide +kernel
theorem d_CM_generated_14 : decode prog_1_method_51_code 14 = .ok (.if_icmp .ne (14), 3) := by decide +kernel
theorem d_CM_generated_17 : decode prog_1_method_51_code 17 = .ok (.aload_n 0, 1) := by decide +kernel
theorem d_CM_generated_18 : decode prog_1_method_51_code 18 = .ok (.getfield 54, 3) := by decide +kernel
theorem d_CM_generated_21 : decode prog_1_method_51_code 21 = .ok (.aload_n 0, 1) := by decide +kernel
theorem d_CM_generated_22 : decode prog_1_method_51_code 22 = .ok (.getfield 12, 3) := by decide +kernel
theorem d_CM_generated_25 : decode prog_1_method_51_code 25 = .ok (.invokevirtual 391, 3) := by decide +kernel
theorem d_CM_generated_28 : decode prog_1_method_51_code 28 = .ok (.aload_n 0, 1) := by decide +kernel
theorem d_CM_generated_29 : decode prog_1_method_51_code 29 = .ok (.getfield 12, 3) := by decide +kernel
theorem d_CM_generated_32 : decode prog_1_method_51_code 32 = .ok (.getfield 225, 3) := by decide +kernel
theorem d_CM_generated_35 : decode prog_1_method_51_code 35 = .ok (.iload_n 1, 1) := by decide +kernel
theorem d_CM_generated_36 : decode prog_1_method_51_code 36 = .ok (.iconst 2, 1) := by decide +kernel
theorem d_CM_generated_37 : decode prog_1_method_51_code 37 = .ok (.if_icmp .ne (13), 3) := by decide +kernel
theorem d_CM_generated_40 : decode prog_1_method_51_code 40 = .ok (.aload_n 0, 1) := by decide +kernel
theorem d_CM_generated_41 : decode prog_1_method_51_code 41 = .ok (.getfield 54, 3) := by decide +kernel
theorem d_CM_generated_44 : decode prog_1_method_51_code 44 = .ok (.getfield 394, 3) := by decide +kernel
theorem d_CM_generated_47 : decode prog_1_method_51_code 47 = .ok (.goto (4), 3) := by decide +kernel
theorem d_CM_generated_50 : decode prog_1_method_51_code 50 = .ok (.iconst 0, 1) := by decide +kernel
theorem d_CM_generated_51 : decode prog_1_method_51_code 51 = .ok (.iadd, 1) := by decide +kernel
theorem d_CM_generated_52 : decode prog_1_method_51_code 52 = .ok (.istore_n 2, 1) := by decide +kernel
theorem d_CM_generated_53 : decode prog_1_method_51_code 53 = .ok (.iconst 0, 1) := by decide +kernel
theorem d_CM_generated_54 : decode prog_1_method_51_code 54 = .ok (.istore_n 3, 1) := by decide +kernel
theorem d_CM_generated_55 : decode prog_1_method_51_code 55 = .ok (.iconst 0, 1) := by decide +kernel
theorem d_CM_generated_56 : decode prog_1_method_51_code 56 = .ok (.istore 4, 2) := by decide +kernel
theorem d_CM_generated_58 : decode prog_1_method_51_code 58 = .ok (.iload 4, 2) := by decide +kernel
theorem d_CM_generated_60 : decode prog_1_method_51_code 60 = .ok (.iload_n 2, 1) := by decide +kernel
theorem d_CM_generated_61 : decode prog_1_method_51_code 61 = .ok (.if_icmp .ge (21), 3) := by decide +kernel
theorem d_CM_generated_82 : decode prog_1_method_51_code 82 = .ok (.iload_n 3, 1) := by decide +kernel
theorem d_CM_generated_83 : decode prog_1_method_51_code 83 = .ok (.ireturn, 1) := by decide +kernel
theorem d_MD_generated_0 : decode prog_12_method_132_code 0 = .ok (.aload_n 0, 1) := by decide +kernel
theorem d_MD_generated_1 : decode prog_12_method_132_code 1 = .ok (.iconst 0, 1) := by decide +kernel
theorem d_MD_generated_2 : decode prog_12_method_132_code 2 = .ok (.putfield 74, 3) := by decide +kernel
theorem d_MD_generated_5 : decode prog_12_method_132_code 5 = .ok (.iload_n 1, 1) := by decide +kernel
theorem d_MD_generated_6 : decode prog_12_method_132_code 6 = .ok (.iconst 1, 1) := by decide +kernel
theorem d_MD_generated_7 : decode prog_12_method_132_code 7 = .ok (.if_icmp .lt (8), 3) := by decide +kernel
theorem d_MD_generated_10 : decode prog_12_method_132_code 10 = .ok (.iload_n 1, 1) := by decide +kernel
theorem d_MD_generated_11 : decode prog_12_method_132_code 11 = .ok (.iconst 2, 1) := by decide +kernel
theorem d_MD_generated_12 : decode prog_12_method_132_code 12 = .ok (.if_icmp .le (5), 3) := by decide +kernel
theorem d_MD_generated_15 : decode prog_12_method_132_code 15 = .ok (.iconst (-1), 1) := by decide +kernel
theorem d_MD_generated_16 : decode prog_12_method_132_code 16 = .ok (.ireturn, 1) := by decide +kernel
theorem d_MD_generated_17 : decode prog_12_method_132_code 17 = .ok (.aload_n 0, 1) := by decide +kernel
theorem d_MD_generated_18 : decode prog_12_method_132_code 18 = .ok (.iconst 0, 1) := by decide +kernel
theorem d_MD_generated_19 : decode prog_12_method_132_code 19 = .ok (.putfield 432, 3) := by decide +kernel
theorem d_MD_generated_22 : decode prog_12_method_132_code 22 = .ok (.iconst 0, 1) := by decide +kernel
theorem d_MD_generated_23 : decode prog_12_method_132_code 23 = .ok (.istore_n 2, 1) := by decide +kernel
theorem d_MD_generated_24 : decode prog_12_method_132_code 24 = .ok (.iload_n 2, 1) := by decide +kernel
theorem d_MD_generated_25 : decode prog_12_method_132_code 25 = .ok (.i2l, 1) := by decide +kernel
theorem d_MD_generated_26 : decode prog_12_method_132_code 26 = .ok (.aload_n 0, 1) := by decide +kernel
theorem d_MD_generated_27 : decode prog_12_method_132_code 27 = .ok (.getfield 21, 3) := by decide +kernel
theorem d_MD_generated_30 : decode prog_12_method_132_code 30 = .ok (.sipush (168), 3) := by decide +kernel
theorem d_MD_generated_33 : decode prog_12_method_132_code 33 = .ok (.laload, 1) := by decide +kernel
theorem d_MD_generated_34 : decode prog_12_method_132_code 34 = .ok (.lcmp, 1) := by decide +kernel
theorem d_MD_generated_35 : decode prog_12_method_132_code 35 = .ok (.ifCond .ge (22), 3) := by decide +kernel
theorem d_MD_generated_57 : decode prog_12_method_132_code 57 = .ok (.iconst 0, 1) := by decide +kernel
theorem d_MD_generated_58 : decode prog_12_method_132_code 58 = .ok (.istore_n 2, 1) := by decide +kernel
theorem d_MD_generated_59 : decode prog_12_method_132_code 59 = .ok (.iload_n 1, 1) := by decide +kernel
theorem d_MD_generated_60 : decode prog_12_method_132_code 60 = .ok (.iconst 2, 1) := by decide +kernel
theorem d_MD_generated_61 : decode prog_12_method_132_code 61 = .ok (.if_icmp .ne (55), 3) := by decide +kernel
theorem d_MD_generated_64 : decode prog_12_method_132_code 64 = .ok (.iload_n 2, 1) := by decide +kernel
theorem d_MD_generated_65 : decode prog_12_method_132_code 65 = .ok (.i2l, 1) := by decide +kernel
theorem d_MD_generated_66 : decode prog_12_method_132_code 66 = .ok (.aload_n 0, 1) := by decide +kernel
theorem d_MD_generated_67 : decode prog_12_method_132_code 67 = .ok (.getfield 21, 3) := by decide +kernel
theorem d_MD_generated_70 : decode prog_12_method_132_code 70 = .ok (.sipush (168), 3) := by decide +kernel
theorem d_MD_generated_73 : decode prog_12_method_132_code 73 = .ok (.laload, 1) := by decide +kernel
theorem d_MD_generated_74 : decode prog_12_method_132_code 74 = .ok (.lcmp, 1) := by decide +kernel
theorem d_MD_generated_75 : decode prog_12_method_132_code 75 = .ok (.ifCond .ge (41), 3) := by decide +kernel
theorem d_MD_generated_116 : decode prog_12_method_132_code 116 = .ok (.aload_n 0, 1) := by decide +kernel
theorem d_MD_generated_117 : decode prog_12_method_132_code 117 = .ok (.getfield 432, 3) := by decide +kernel
theorem d_MD_generated_120 : decode prog_12_method_132_code 120 = .ok (.ireturn, 1) := by decide +kernel
theorem d_CM_leads_0 : decode prog_1_method_52_code 0 = .ok (.aload_n 0, 1) := by decide +kernel
theorem d_CM_leads_1 : decode prog_1_method_52_code 1 = .ok (.getfield 12, 3) := by decide +kernel
theorem d_CM_leads_4 : decode prog_1_method_52_code 4 = .ok (.iload_n 1, 1) := by decide +kernel
theorem d_CM_leads_5 : decode prog_1_method_52_code 5 = .ok (.invokevirtual 160, 3) := by decide +kernel
theorem d_CM_leads_8 : decode prog_1_method_52_code 8 = .ok (.ifCond .eq (24), 3) := by decide +kernel
theorem d_CM_leads_32 : decode prog_1_method_52_code 32 = .ok (.iconst (-1), 1) := by decide +kernel
theorem d_CM_leads_33 : decode prog_1_method_52_code 33 = .ok (.ireturn, 1) := by decide +kernel
theorem d_MD_leads_0 : decode prog_12_method_107_code 0 = .ok (.aload_n 0, 1) := by decide +kernel
theorem d_MD_leads_1 : decode prog_12_method_107_code 1 = .ok (.iconst 0, 1) := by decide +kernel
theorem d_MD_leads_2 : decode prog_12_method_107_code 2 = .ok (.putfield 74, 3) := by decide +kernel
theorem d_MD_leads_5 : decode prog_12_method_107_code 5 = .ok (.aload_n 0, 1) := by decide +kernel
theorem d_MD_leads_6 : decode prog_12_method_107_code 6 = .ok (.iload_n 1, 1) := by decide +kernel
theorem d_MD_leads_7 : decode prog_12_method_107_code 7 = .ok (.invokevirtual 247, 3) := by decide +kernel
theorem d_MD_leads_10 : decode prog_12_method_107_code 10 = .ok (.ifCond .eq (21), 3) := by decide +kernel
theorem d_MD_leads_31 : decode prog_12_method_107_code 31 = .ok (.iconst (-1), 1) := by decide +kernel
theorem d_MD_leads_32 : decode prog_12_method_107_code 32 = .ok (.ireturn, 1) := by decide +kernel
theorem d_CM_pull_0 : decode prog_1_method_53_code 0 = .ok (.aload_n 0, 1) := by decide +kernel
theorem d_CM_pull_1 : decode prog_1_method_53_code 1 = .ok (.getfield 12, 3) := by decide +kernel
theorem d_CM_pull_4 : decode prog_1_method_53_code 4 = .ok (.iload_n 1, 1) := by decide +kernel
theorem d_CM_pull_5 : decode prog_1_method_53_code 5 = .ok (.invokevirtual 151, 3) := by decide +kernel
theorem d_CM_pull_8 : decode prog_1_method_53_code 8 = .ok (.ifCond .eq (21), 3) := by decide +kernel
theorem d_CM_pull_29 : decode prog_1_method_53_code 29 = .ok (.ldc2_w 270, 3) := by decide +kernel
theorem d_CM_pull_32 : decode prog_1_method_53_code 32 = .ok (.lreturn, 1) := by decide +kernel
theorem d_MD_pull_0 : decode prog_12_method_136_code 0 = .ok (.aload_n 0, 1) := by decide +kernel
theorem d_MD_pull_1 : decode prog_12_method_136_code 1 = .ok (.iconst 0, 1) := by decide +kernel
theorem d_MD_pull_2 : decode prog_12_method_136_code 2 = .ok (.putfield 74, 3) := by decide +kernel
theorem d_MD_pull_5 : decode prog_12_method_136_code 5 = .ok (.aload_n 0, 1) := by decide +kernel
theorem d_MD_pull_6 : decode prog_12_method_136_code 6 = .ok (.iload_n 1, 1) := by decide +kernel
theorem d_MD_pull_7 : decode prog_12_method_136_code 7 = .ok (.invokevirtual 241, 3) := by decide +kernel
theorem d_MD_pull_10 : decode prog_12_method_136_code 10 = .ok (.ifCond .eq (21), 3) := by decide +kernel
theorem d_MD_pull_31 : decode prog_12_method_136_code 31 = .ok (.ldc2_w 307, 3) := by decide +kernel
theorem d_MD_pull_34 : decode prog_12_method_136_code 34 = .ok (.lreturn, 1) := by decide +kernel
theorem d_CM_keepsLine_0 : decode prog_1_method_54_code 0 = .ok (.aload_n 0, 1) := by decide +kernel
theorem d_CM_keepsLine_1 : decode prog_1_method_54_code 1 = .ok (.getfield 12, 3) := by decide +kernel
theorem d_CM_keepsLine_4 : decode prog_1_method_54_code 4 = .ok (.iload_n 1, 1) := by decide +kernel
theorem d_CM_keepsLine_5 : decode prog_1_method_54_code 5 = .ok (.invokevirtual 151, 3) := by decide +kernel
theorem d_CM_keepsLine_8 : decode prog_1_method_54_code 8 = .ok (.ifCond .eq (13), 3) := by decide +kernel
theorem d_CM_keepsLine_21 : decode prog_1_method_54_code 21 = .ok (.iconst (-1), 1) := by decide +kernel
theorem d_CM_keepsLine_22 : decode prog_1_method_54_code 22 = .ok (.ireturn, 1) := by decide +kernel
theorem d_MD_keepsLine_0 : decode prog_12_method_137_code 0 = .ok (.aload_n 0, 1) := by decide +kernel
theorem d_MD_keepsLine_1 : decode prog_12_method_137_code 1 = .ok (.iconst 0, 1) := by decide +kernel
theorem d_MD_keepsLine_2 : decode prog_12_method_137_code 2 = .ok (.putfield 74, 3) := by decide +kernel
theorem d_MD_keepsLine_5 : decode prog_12_method_137_code 5 = .ok (.aload_n 0, 1) := by decide +kernel
theorem d_MD_keepsLine_6 : decode prog_12_method_137_code 6 = .ok (.iload_n 1, 1) := by decide +kernel
theorem d_MD_keepsLine_7 : decode prog_12_method_137_code 7 = .ok (.invokevirtual 241, 3) := by decide +kernel
theorem d_MD_keepsLine_10 : decode prog_12_method_137_code 10 = .ok (.ifCond .eq (13), 3) := by decide +kernel
theorem d_MD_keepsLine_23 : decode prog_12_method_137_code 23 = .ok (.iconst (-1), 1) := by decide +kernel
theorem d_MD_keepsLine_24 : decode prog_12_method_137_code 24 = .ok (.ireturn, 1) := by decide +kernel
theorem d_CM_side_0 : decode prog_1_method_55_code 0 = .ok (.aload_n 0, 1) := by decide +kernel
theorem d_CM_side_1 : decode prog_1_method_55_code 1 = .ok (.getfield 12, 3) := by decide +kernel
theorem d_CM_side_4 : decode prog_1_method_55_code 4 = .ok (.iload_n 1, 1) := by decide +kernel
theorem d_CM_side_5 : decode prog_1_method_55_code 5 = .ok (.invokevirtual 127, 3) := by decide +kernel
theorem d_CM_side_8 : decode prog_1_method_55_code 8 = .ok (.ifCond .eq (17), 3) := by decide +kernel
theorem d_CM_side_25 : decode prog_1_method_55_code 25 = .ok (.ldc2_w 270, 3) := by decide +kernel
theorem d_CM_side_28 : decode prog_1_method_55_code 28 = .ok (.lreturn, 1) := by decide +kernel
theorem d_MD_side_0 : decode prog_12_method_138_code 0 = .ok (.aload_n 0, 1) := by decide +kernel
theorem d_MD_side_1 : decode prog_12_method_138_code 1 = .ok (.iconst 0, 1) := by decide +kernel
theorem d_MD_side_2 : decode prog_12_method_138_code 2 = .ok (.putfield 74, 3) := by decide +kernel
theorem d_MD_side_5 : decode prog_12_method_138_code 5 = .ok (.aload_n 0, 1) := by decide +kernel
theorem d_MD_side_6 : decode prog_12_method_138_code 6 = .ok (.iload_n 1, 1) := by decide +kernel
theorem d_MD_side_7 : decode prog_12_method_138_code 7 = .ok (.invokevirtual 238, 3) := by decide +kernel
theorem d_MD_side_10 : decode prog_12_method_138_code 10 = .ok (.ifCond .eq (19), 3) := by decide +kernel
theorem d_MD_side_29 : decode prog_12_method_138_code 29 = .ok (.ldc2_w 307, 3) := by decide +kernel
theorem d_MD_side_32 : decode prog_12_method_138_code 32 = .ok (.lreturn, 1) := by decide +kernel
theorem d_CM_turnOf_0 : decode prog_1_method_56_code 0 = .ok (.aload_n 0, 1) := by decide +kernel
theorem d_CM_turnOf_1 : decode prog_1_method_56_code 1 = .ok (.iload_n 1, 1) := by decide +kernel
theorem d_CM_turnOf_2 : decode prog_1_method_56_code 2 = .ok (.invokevirtual 398, 3) := by decide +kernel
theorem d_CM_turnOf_5 : decode prog_1_method_56_code 5 = .ok (.ifCond .ne (19), 3) := by decide +kernel
theorem d_CM_turnOf_8 : decode prog_1_method_56_code 8 = .ok (.aload_n 0, 1) := by decide +kernel
theorem d_CM_turnOf_9 : decode prog_1_method_56_code 9 = .ok (.iload_n 2, 1) := by decide +kernel
theorem d_CM_turnOf_10 : decode prog_1_method_56_code 10 = .ok (.invokevirtual 398, 3) := by decide +kernel
theorem d_CM_turnOf_13 : decode prog_1_method_56_code 13 = .ok (.ifCond .ne (11), 3) := by decide +kernel
theorem d_CM_turnOf_16 : decode prog_1_method_56_code 16 = .ok (.aload_n 0, 1) := by decide +kernel
theorem d_CM_turnOf_17 : decode prog_1_method_56_code 17 = .ok (.iload_n 3, 1) := by decide +kernel
theorem d_CM_turnOf_18 : decode prog_1_method_56_code 18 = .ok (.invokevirtual 398, 3) := by decide +kernel
theorem d_CM_turnOf_21 : decode prog_1_method_56_code 21 = .ok (.ifCond .eq (6), 3) := by decide +kernel
theorem d_CM_turnOf_27 : decode prog_1_method_56_code 27 = .ok (.aload_n 0, 1) := by decide +kernel
theorem d_CM_turnOf_28 : decode prog_1_method_56_code 28 = .ok (.iload_n 1, 1) := by decide +kernel
theorem d_CM_turnOf_29 : decode prog_1_method_56_code 29 = .ok (.iload_n 2, 1) := by decide +kernel
theorem d_CM_turnOf_30 : decode prog_1_method_56_code 30 = .ok (.iload_n 3, 1) := by decide +kernel
theorem d_CM_turnOf_31 : decode prog_1_method_56_code 31 = .ok (.iload_n 3, 1) := by decide +kernel
theorem d_CM_turnOf_32 : decode prog_1_method_56_code 32 = .ok (.invokevirtual 330, 3) := by decide +kernel
theorem d_CM_turnOf_35 : decode prog_1_method_56_code 35 = .ok (.ifCond .ne (6), 3) := by decide +kernel
theorem d_CM_turnOf_38 : decode prog_1_method_56_code 38 = .ok (.bipush (-3), 2) := by decide +kernel
theorem d_CM_turnOf_40 : decode prog_1_method_56_code 40 = .ok (.ireturn, 1) := by decide +kernel
theorem d_CM_isFar_0 : decode prog_1_method_84_code 0 = .ok (.aload_n 0, 1) := by decide +kernel
theorem d_CM_isFar_1 : decode prog_1_method_84_code 1 = .ok (.getfield 12, 3) := by decide +kernel
theorem d_CM_isFar_4 : decode prog_1_method_84_code 4 = .ok (.iload_n 1, 1) := by decide +kernel
theorem d_CM_isFar_5 : decode prog_1_method_84_code 5 = .ok (.invokevirtual 160, 3) := by decide +kernel
theorem d_CM_isFar_8 : decode prog_1_method_84_code 8 = .ok (.ifCond .eq (22), 3) := by decide +kernel
theorem d_CM_isFar_30 : decode prog_1_method_84_code 30 = .ok (.iconst 0, 1) := by decide +kernel
theorem d_CM_isFar_31 : decode prog_1_method_84_code 31 = .ok (.ireturn, 1) := by decide +kernel
theorem d_MD_turnOf_0 : decode prog_12_method_140_code 0 = .ok (.aload_n 0, 1) := by decide +kernel
theorem d_MD_turnOf_1 : decode prog_12_method_140_code 1 = .ok (.iconst 0, 1) := by decide +kernel
theorem d_MD_turnOf_2 : decode prog_12_method_140_code 2 = .ok (.putfield 74, 3) := by decide +kernel
theorem d_MD_turnOf_5 : decode prog_12_method_140_code 5 = .ok (.aload_n 0, 1) := by decide +kernel
theorem d_MD_turnOf_6 : decode prog_12_method_140_code 6 = .ok (.iload_n 1, 1) := by decide +kernel
theorem d_MD_turnOf_7 : decode prog_12_method_140_code 7 = .ok (.invokevirtual 247, 3) := by decide +kernel
theorem d_MD_turnOf_10 : decode prog_12_method_140_code 10 = .ok (.ifCond .eq (19), 3) := by decide +kernel
theorem d_MD_turnOf_29 : decode prog_12_method_140_code 29 = .ok (.bipush (-3), 2) := by decide +kernel
theorem d_MD_turnOf_31 : decode prog_12_method_140_code 31 = .ok (.ireturn, 1) := by decide +kernel
theorem d_CM_gap_0 : decode prog_1_method_57_code 0 = .ok (.aload_n 0, 1) := by decide +kernel
theorem d_CM_gap_1 : decode prog_1_method_57_code 1 = .ok (.getfield 12, 3) := by decide +kernel
theorem d_CM_gap_4 : decode prog_1_method_57_code 4 = .ok (.iload_n 1, 1) := by decide +kernel
theorem d_CM_gap_5 : decode prog_1_method_57_code 5 = .ok (.invokevirtual 160, 3) := by decide +kernel
theorem d_CM_gap_8 : decode prog_1_method_57_code 8 = .ok (.ifCond .eq (21), 3) := by decide +kernel
theorem d_CM_gap_29 : decode prog_1_method_57_code 29 = .ok (.ldc2_w 270, 3) := by decide +kernel
theorem d_CM_gap_32 : decode prog_1_method_57_code 32 = .ok (.lreturn, 1) := by decide +kernel
theorem d_MD_gap_0 : decode prog_12_method_141_code 0 = .ok (.aload_n 0, 1) := by decide +kernel
theorem d_MD_gap_1 : decode prog_12_method_141_code 1 = .ok (.iconst 0, 1) := by decide +kernel
theorem d_MD_gap_2 : decode prog_12_method_141_code 2 = .ok (.putfield 74, 3) := by decide +kernel
theorem d_MD_gap_5 : decode prog_12_method_141_code 5 = .ok (.aload_n 0, 1) := by decide +kernel
theorem d_MD_gap_6 : decode prog_12_method_141_code 6 = .ok (.iload_n 1, 1) := by decide +kernel
theorem d_MD_gap_7 : decode prog_12_method_141_code 7 = .ok (.invokevirtual 247, 3) := by decide +kernel
theorem d_MD_gap_10 : decode prog_12_method_141_code 10 = .ok (.ifCond .eq (20), 3) := by decide +kernel
theorem d_MD_gap_30 : decode prog_12_method_141_code 30 = .ok (.ldc2_w 307, 3) := by decide +kernel
theorem d_MD_gap_33 : decode prog_12_method_141_code 33 = .ok (.lreturn, 1) := by decide +kernel
theorem d_CM_middle_0 : decode prog_1_method_58_code 0 = .ok (.aload_n 0, 1) := by decide +kernel
theorem d_CM_middle_1 : decode prog_1_method_58_code 1 = .ok (.getfield 12, 3) := by decide +kernel
theorem d_CM_middle_4 : decode prog_1_method_58_code 4 = .ok (.iload_n 1, 1) := by decide +kernel
theorem d_CM_middle_5 : decode prog_1_method_58_code 5 = .ok (.invokevirtual 160, 3) := by decide +kernel
theorem d_CM_middle_8 : decode prog_1_method_58_code 8 = .ok (.ifCond .eq (21), 3) := by decide +kernel
theorem d_CM_middle_29 : decode prog_1_method_58_code 29 = .ok (.ldc2_w 270, 3) := by decide +kernel
theorem d_CM_middle_32 : decode prog_1_method_58_code 32 = .ok (.lreturn, 1) := by decide +kernel
theorem d_MD_middle_0 : decode prog_12_method_143_code 0 = .ok (.aload_n 0, 1) := by decide +kernel
theorem d_MD_middle_1 : decode prog_12_method_143_code 1 = .ok (.iconst 0, 1) := by decide +kernel
theorem d_MD_middle_2 : decode prog_12_method_143_code 2 = .ok (.putfield 74, 3) := by decide +kernel
theorem d_MD_middle_5 : decode prog_12_method_143_code 5 = .ok (.aload_n 0, 1) := by decide +kernel
theorem d_MD_middle_6 : decode prog_12_method_143_code 6 = .ok (.iload_n 1, 1) := by decide +kernel
theorem d_MD_middle_7 : decode prog_12_method_143_code 7 = .ok (.invokevirtual 247, 3) := by decide +kernel
theorem d_MD_middle_10 : decode prog_12_method_143_code 10 = .ok (.ifCond .eq (18), 3) := by decide +kernel
theorem d_MD_middle_28 : decode prog_12_method_143_code 28 = .ok (.ldc2_w 307, 3) := by decide +kernel
theorem d_MD_middle_31 : decode prog_12_method_143_code 31 = .ok (.lreturn, 1) := by decide +kernel
theorem d_CM_partner_0 : decode prog_1_method_59_code 0 = .ok (.aload_n 0, 1) := by decide +kernel
theorem d_CM_partner_1 : decode prog_1_method_59_code 1 = .ok (.getfield 12, 3) := by decide +kernel
theorem d_CM_partner_4 : decode prog_1_method_59_code 4 = .ok (.iload_n 1, 1) := by decide +kernel
theorem d_CM_partner_5 : decode prog_1_method_59_code 5 = .ok (.invokevirtual 151, 3) := by decide +kernel
theorem d_CM_partner_8 : decode prog_1_method_59_code 8 = .ok (.ifCond .ne (5), 3) := by decide +kernel
theorem d_CM_partner_11 : decode prog_1_method_59_code 11 = .ok (.iconst (-1), 1) := by decide +kernel
theorem d_CM_partner_12 : decode prog_1_method_59_code 12 = .ok (.ireturn, 1) := by decide +kernel
theorem d_MD_partner_0 : decode prog_12_method_145_code 0 = .ok (.aload_n 0, 1) := by decide +kernel
theorem d_MD_partner_1 : decode prog_12_method_145_code 1 = .ok (.iconst 0, 1) := by decide +kernel
theorem d_MD_partner_2 : decode prog_12_method_145_code 2 = .ok (.putfield 74, 3) := by decide +kernel
theorem d_MD_partner_5 : decode prog_12_method_145_code 5 = .ok (.aload_n 0, 1) := by decide +kernel
theorem d_MD_partner_6 : decode prog_12_method_145_code 6 = .ok (.iload_n 1, 1) := by decide +kernel
theorem d_MD_partner_7 : decode prog_12_method_145_code 7 = .ok (.invokevirtual 241, 3) := by decide +kernel
theorem d_MD_partner_10 : decode prog_12_method_145_code 10 = .ok (.ifCond .ne (5), 3) := by decide +kernel
theorem d_MD_partner_13 : decode prog_12_method_145_code 13 = .ok (.iconst (-1), 1) := by decide +kernel
theorem d_MD_partner_14 : decode prog_12_method_145_code 14 = .ok (.ireturn, 1) := by decide +kernel
theorem d_CM_cornerBy_0 : decode prog_1_method_60_code 0 = .ok (.aload_n 0, 1) := by decide +kernel
theorem d_CM_cornerBy_1 : decode prog_1_method_60_code 1 = .ok (.getfield 12, 3) := by decide +kernel
theorem d_CM_cornerBy_4 : decode prog_1_method_60_code 4 = .ok (.iload_n 1, 1) := by decide +kernel
theorem d_CM_cornerBy_5 : decode prog_1_method_60_code 5 = .ok (.invokevirtual 151, 3) := by decide +kernel
theorem d_CM_cornerBy_8 : decode prog_1_method_60_code 8 = .ok (.ifCond .eq (29), 3) := by decide +kernel
theorem d_CM_cornerBy_37 : decode prog_1_method_60_code 37 = .ok (.ldc2_w 270, 3) := by decide +kernel
theorem d_CM_cornerBy_40 : decode prog_1_method_60_code 40 = .ok (.lreturn, 1) := by decide +kernel
theorem d_MD_cornerBy_0 : decode prog_12_method_152_code 0 = .ok (.aload_n 0, 1) := by decide +kernel
theorem d_MD_cornerBy_1 : decode prog_12_method_152_code 1 = .ok (.iconst 0, 1) := by decide +kernel
theorem d_MD_cornerBy_2 : decode prog_12_method_152_code 2 = .ok (.putfield 74, 3) := by decide +kernel
theorem d_MD_cornerBy_5 : decode prog_12_method_152_code 5 = .ok (.aload_n 0, 1) := by decide +kernel
theorem d_MD_cornerBy_6 : decode prog_12_method_152_code 6 = .ok (.iload_n 1, 1) := by decide +kernel
theorem d_MD_cornerBy_7 : decode prog_12_method_152_code 7 = .ok (.invokevirtual 241, 3) := by decide +kernel
theorem d_MD_cornerBy_10 : decode prog_12_method_152_code 10 = .ok (.ifCond .eq (28), 3) := by decide +kernel
theorem d_MD_cornerBy_38 : decode prog_12_method_152_code 38 = .ok (.ldc2_w 307, 3) := by decide +kernel
theorem d_MD_cornerBy_41 : decode prog_12_method_152_code 41 = .ok (.lreturn, 1) := by decide +kernel
theorem d_CM_scale_0 : decode prog_1_method_61_code 0 = .ok (.aload_n 0, 1) := by decide +kernel
theorem d_CM_scale_1 : decode prog_1_method_61_code 1 = .ok (.getfield 12, 3) := by decide +kernel
theorem d_CM_scale_4 : decode prog_1_method_61_code 4 = .ok (.iload_n 1, 1) := by decide +kernel
theorem d_CM_scale_5 : decode prog_1_method_61_code 5 = .ok (.invokevirtual 151, 3) := by decide +kernel
theorem d_CM_scale_8 : decode prog_1_method_61_code 8 = .ok (.ifCond .eq (10), 3) := by decide +kernel
theorem d_CM_scale_18 : decode prog_1_method_61_code 18 = .ok (.ldc2_w 270, 3) := by decide +kernel
theorem d_CM_scale_21 : decode prog_1_method_61_code 21 = .ok (.lreturn, 1) := by decide +kernel
theorem d_MD_scale_0 : decode prog_12_method_144_code 0 = .ok (.aload_n 0, 1) := by decide +kernel
theorem d_MD_scale_1 : decode prog_12_method_144_code 1 = .ok (.iconst 0, 1) := by decide +kernel
theorem d_MD_scale_2 : decode prog_12_method_144_code 2 = .ok (.putfield 74, 3) := by decide +kernel
theorem d_MD_scale_5 : decode prog_12_method_144_code 5 = .ok (.aload_n 0, 1) := by decide +kernel
theorem d_MD_scale_6 : decode prog_12_method_144_code 6 = .ok (.iload_n 1, 1) := by decide +kernel
theorem d_MD_scale_7 : decode prog_12_method_144_code 7 = .ok (.invokevirtual 241, 3) := by decide +kernel
theorem d_MD_scale_10 : decode prog_12_method_144_code 10 = .ok (.ifCond .eq (12), 3) := by decide +kernel
theorem d_MD_scale_22 : decode prog_12_method_144_code 22 = .ok (.ldc2_w 307, 3) := by decide +kernel
theorem d_MD_scale_25 : decode prog_12_method_144_code 25 = .ok (.lreturn, 1) := by decide +kernel
theorem d_CM_likeness_0 : decode prog_1_method_62_code 0 = .ok (.aload_n 0, 1) := by decide +kernel
theorem d_CM_likeness_1 : decode prog_1_method_62_code 1 = .ok (.getfield 12, 3) := by decide +kernel
theorem d_CM_likeness_4 : decode prog_1_method_62_code 4 = .ok (.iload_n 1, 1) := by decide +kernel
theorem d_CM_likeness_5 : decode prog_1_method_62_code 5 = .ok (.invokevirtual 127, 3) := by decide +kernel
theorem d_CM_likeness_8 : decode prog_1_method_62_code 8 = .ok (.ifCond .eq (21), 3) := by decide +kernel
theorem d_CM_likeness_29 : decode prog_1_method_62_code 29 = .ok (.iconst (-1), 1) := by decide +kernel
theorem d_CM_likeness_30 : decode prog_1_method_62_code 30 = .ok (.ireturn, 1) := by decide +kernel
theorem d_MD_likeness_0 : decode prog_12_method_146_code 0 = .ok (.aload_n 0, 1) := by decide +kernel
theorem d_MD_likeness_1 : decode prog_12_method_146_code 1 = .ok (.iconst 0, 1) := by decide +kernel
theorem d_MD_likeness_2 : decode prog_12_method_146_code 2 = .ok (.putfield 74, 3) := by decide +kernel
theorem d_MD_likeness_5 : decode prog_12_method_146_code 5 = .ok (.aload_n 0, 1) := by decide +kernel
theorem d_MD_likeness_6 : decode prog_12_method_146_code 6 = .ok (.iload_n 1, 1) := by decide +kernel
theorem d_MD_likeness_7 : decode prog_12_method_146_code 7 = .ok (.invokevirtual 238, 3) := by decide +kernel
theorem d_MD_likeness_10 : decode prog_12_method_146_code 10 = .ok (.ifCond .eq (20), 3) := by decide +kernel
theorem d_MD_likeness_30 : decode prog_12_method_146_code 30 = .ok (.iconst (-1), 1) := by decide +kernel
theorem d_MD_likeness_31 : decode prog_12_method_146_code 31 = .ok (.ireturn, 1) := by decide +kernel
theorem d_CM_hits_0 : decode prog_1_method_63_code 0 = .ok (.aload_n 0, 1) := by decide +kernel
theorem d_CM_hits_1 : decode prog_1_method_63_code 1 = .ok (.getfield 12, 3) := by decide +kernel
theorem d_CM_hits_4 : decode prog_1_method_63_code 4 = .ok (.iload_n 1, 1) := by decide +kernel
theorem d_CM_hits_5 : decode prog_1_method_63_code 5 = .ok (.invokevirtual 151, 3) := by decide +kernel
theorem d_CM_hits_8 : decode prog_1_method_63_code 8 = .ok (.ifCond .eq (25), 3) := by decide +kernel
theorem d_CM_hits_33 : decode prog_1_method_63_code 33 = .ok (.iconst (-1), 1) := by decide +kernel
theorem d_CM_hits_34 : decode prog_1_method_63_code 34 = .ok (.ireturn, 1) := by decide +kernel
theorem d_MD_hits_0 : decode prog_12_method_154_code 0 = .ok (.aload_n 0, 1) := by decide +kernel
theorem d_MD_hits_1 : decode prog_12_method_154_code 1 = .ok (.iconst 0, 1) := by decide +kernel
theorem d_MD_hits_2 : decode prog_12_method_154_code 2 = .ok (.putfield 74, 3) := by decide +kernel
theorem d_MD_hits_5 : decode prog_12_method_154_code 5 = .ok (.aload_n 0, 1) := by decide +kernel
theorem d_MD_hits_6 : decode prog_12_method_154_code 6 = .ok (.iload_n 1, 1) := by decide +kernel
theorem d_MD_hits_7 : decode prog_12_method_154_code 7 = .ok (.invokevirtual 241, 3) := by decide +kernel
theorem d_MD_hits_10 : decode prog_12_method_154_code 10 = .ok (.ifCond .eq (29), 3) := by decide +kernel
theorem d_MD_hits_39 : decode prog_12_method_154_code 39 = .ok (.iconst (-1), 1) := by decide +kernel
theorem d_MD_hits_40 : decode prog_12_method_154_code 40 = .ok (.ireturn, 1) := by decide +kernel
theorem d_CM_goesTo_0 : decode prog_1_method_64_code 0 = .ok (.aload_n 0, 1) := by decide +kernel
theorem d_CM_goesTo_1 : decode prog_1_method_64_code 1 = .ok (.getfield 12, 3) := by decide +kernel
theorem d_CM_goesTo_4 : decode prog_1_method_64_code 4 = .ok (.iload_n 1, 1) := by decide +kernel
theorem d_CM_goesTo_5 : decode prog_1_method_64_code 5 = .ok (.invokevirtual 151, 3) := by decide +kernel
theorem d_CM_goesTo_8 : decode prog_1_method_64_code 8 = .ok (.ifCond .eq (14), 3) := by decide +kernel
theorem d_CM_goesTo_22 : decode prog_1_method_64_code 22 = .ok (.iconst (-1), 1) := by decide +kernel
theorem d_CM_goesTo_23 : decode prog_1_method_64_code 23 = .ok (.ireturn, 1) := by decide +kernel
theorem d_MD_goesTo_0 : decode prog_12_method_155_code 0 = .ok (.aload_n 0, 1) := by decide +kernel
theorem d_MD_goesTo_1 : decode prog_12_method_155_code 1 = .ok (.iconst 0, 1) := by decide +kernel
theorem d_MD_goesTo_2 : decode prog_12_method_155_code 2 = .ok (.putfield 74, 3) := by decide +kernel
theorem d_MD_goesTo_5 : decode prog_12_method_155_code 5 = .ok (.aload_n 0, 1) := by decide +kernel
theorem d_MD_goesTo_6 : decode prog_12_method_155_code 6 = .ok (.iload_n 1, 1) := by decide +kernel
theorem d_MD_goesTo_7 : decode prog_12_method_155_code 7 = .ok (.invokevirtual 241, 3) := by decide +kernel
theorem d_MD_goesTo_10 : decode prog_12_method_155_code 10 = .ok (.ifCond .eq (11), 3) := by decide +kernel
theorem d_MD_goesTo_21 : decode prog_12_method_155_code 21 = .ok (.iconst (-1), 1) := by decide +kernel
theorem d_MD_goesTo_22 : decode prog_12_method_155_code 22 = .ok (.ireturn, 1) := by decide +kernel
theorem d_CM_farthest_0 : decode prog_1_method_65_code 0 = .ok (.aload_n 0, 1) := by decide +kernel
theorem d_CM_farthest_1 : decode prog_1_method_65_code 1 = .ok (.getfield 12, 3) := by decide +kernel
theorem d_CM_farthest_4 : decode prog_1_method_65_code 4 = .ok (.iload_n 1, 1) := by decide +kernel
theorem d_CM_farthest_5 : decode prog_1_method_65_code 5 = .ok (.invokevirtual 151, 3) := by decide +kernel
theorem d_CM_farthest_8 : decode prog_1_method_65_code 8 = .ok (.ifCond .ne (7), 3) := by decide +kernel
theorem d_CM_farthest_11 : decode prog_1_method_65_code 11 = .ok (.ldc2_w 270, 3) := by decide +kernel
theorem d_CM_farthest_14 : decode prog_1_method_65_code 14 = .ok (.lreturn, 1) := by decide +kernel
theorem d_MD_farthest_0 : decode prog_12_method_156_code 0 = .ok (.aload_n 0, 1) := by decide +kernel
theorem d_MD_farthest_1 : decode prog_12_method_156_code 1 = .ok (.iconst 0, 1) := by decide +kernel
theorem d_MD_farthest_2 : decode prog_12_method_156_code 2 = .ok (.putfield 74, 3) := by decide +kernel
theorem d_MD_farthest_5 : decode prog_12_method_156_code 5 = .ok (.aload_n 0, 1) := by decide +kernel
theorem d_MD_farthest_6 : decode prog_12_method_156_code 6 = .ok (.iload_n 1, 1) := by decide +kernel
theorem d_MD_farthest_7 : decode prog_12_method_156_code 7 = .ok (.invokevirtual 241, 3) := by decide +kernel
theorem d_MD_farthest_10 : decode prog_12_method_156_code 10 = .ok (.ifCond .ne (7), 3) := by decide +kernel
theorem d_MD_farthest_13 : decode prog_12_method_156_code 13 = .ok (.ldc2_w 307, 3) := by decide +kernel
theorem d_MD_farthest_16 : decode prog_12_method_156_code 16 = .ok (.lreturn, 1) := by decide +kernel
theorem d_CM_biggest_0 : decode prog_1_method_66_code 0 = .ok (.iload_n 1, 1) := by decide +kernel
theorem d_CM_biggest_1 : decode prog_1_method_66_code 1 = .ok (.invokestatic 136, 3) := by decide +kernel
theorem d_CM_isPart_0 : decode prog_1_method_74_code 0 = .ok (.iload_n 0, 1) := by decide +kernel
theorem d_CM_isPart_1 : decode prog_1_method_74_code 1 = .ok (.ifCond .eq (8), 3) := by decide +kernel
theorem d_CM_isPart_4 : decode prog_1_method_74_code 4 = .ok (.iload_n 0, 1) := by decide +kernel
theorem d_CM_isPart_5 : decode prog_1_method_74_code 5 = .ok (.iconst 1, 1) := by decide +kernel
theorem d_CM_isPart_6 : decode prog_1_method_74_code 6 = .ok (.if_icmp .ne (7), 3) := by decide +kernel
theorem d_CM_isPart_9 : decode prog_1_method_74_code 9 = .ok (.iconst 1, 1) := by decide +kernel
theorem d_CM_isPart_10 : decode prog_1_method_74_code 10 = .ok (.goto (4), 3) := by decide +kernel
theorem d_CM_isPart_13 : decode prog_1_method_74_code 13 = .ok (.iconst 0, 1) := by decide +kernel
theorem d_CM_isPart_14 : decode prog_1_method_74_code 14 = .ok (.ireturn, 1) := by decide +kernel
theorem d_MD_biggest_0 : decode prog_12_method_147_code 0 = .ok (.aload_n 0, 1) := by decide +kernel
theorem d_MD_biggest_1 : decode prog_12_method_147_code 1 = .ok (.iconst 0, 1) := by decide +kernel
theorem d_MD_biggest_2 : decode prog_12_method_147_code 2 = .ok (.putfield 74, 3) := by decide +kernel
theorem d_MD_biggest_5 : decode prog_12_method_147_code 5 = .ok (.iload_n 1, 1) := by decide +kernel
theorem d_MD_biggest_6 : decode prog_12_method_147_code 6 = .ok (.ifCond .lt (8), 3) := by decide +kernel
theorem d_MD_biggest_9 : decode prog_12_method_147_code 9 = .ok (.iload_n 1, 1) := by decide +kernel
theorem d_MD_biggest_10 : decode prog_12_method_147_code 10 = .ok (.iconst 1, 1) := by decide +kernel
theorem d_MD_biggest_11 : decode prog_12_method_147_code 11 = .ok (.if_icmp .le (5), 3) := by decide +kernel
theorem d_MD_biggest_14 : decode prog_12_method_147_code 14 = .ok (.iconst (-1), 1) := by decide +kernel
theorem d_MD_biggest_15 : decode prog_12_method_147_code 15 = .ok (.ireturn, 1) := by decide +kernel
theorem d_MD_biggest_16 : decode prog_12_method_147_code 16 = .ok (.bipush (-2), 2) := by decide +kernel
theorem d_MD_biggest_18 : decode prog_12_method_147_code 18 = .ok (.istore_n 2, 1) := by decide +kernel
theorem d_MD_biggest_19 : decode prog_12_method_147_code 19 = .ok (.iconst 0, 1) := by decide +kernel
theorem d_MD_biggest_20 : decode prog_12_method_147_code 20 = .ok (.istore_n 3, 1) := by decide +kernel
theorem d_MD_biggest_21 : decode prog_12_method_147_code 21 = .ok (.iload_n 3, 1) := by decide +kernel
theorem d_MD_biggest_22 : decode prog_12_method_147_code 22 = .ok (.i2l, 1) := by decide +kernel
theorem d_MD_biggest_23 : decode prog_12_method_147_code 23 = .ok (.aload_n 0, 1) := by decide +kernel
theorem d_MD_biggest_24 : decode prog_12_method_147_code 24 = .ok (.getfield 21, 3) := by decide +kernel
theorem d_MD_biggest_27 : decode prog_12_method_147_code 27 = .ok (.sipush (168), 3) := by decide +kernel
theorem d_MD_biggest_30 : decode prog_12_method_147_code 30 = .ok (.laload, 1) := by decide +kernel
theorem d_MD_biggest_31 : decode prog_12_method_147_code 31 = .ok (.lcmp, 1) := by decide +kernel
theorem d_MD_biggest_32 : decode prog_12_method_147_code 32 = .ok (.ifCond .ge (57), 3) := by decide +kernel
theorem d_MD_biggest_89 : decode prog_12_method_147_code 89 = .ok (.iload_n 2, 1) := by decide +kernel
theorem d_MD_biggest_90 : decode prog_12_method_147_code 90 = .ok (.ireturn, 1) := by decide +kernel
theorem d_CM_kinds_0 : decode prog_1_method_67_code 0 = .ok (.iload_n 1, 1) := by decide +kernel
theorem d_CM_kinds_1 : decode prog_1_method_67_code 1 = .ok (.invokestatic 385, 3) := by decide +kernel
theorem d_CM_isKind_0 : decode prog_1_method_77_code 0 = .ok (.iload_n 0, 1) := by decide +kernel
theorem d_CM_isKind_1 : decode prog_1_method_77_code 1 = .ok (.ifCond .lt (12), 3) := by decide +kernel
theorem d_CM_isKind_4 : decode prog_1_method_77_code 4 = .ok (.iload_n 0, 1) := by decide +kernel
theorem d_CM_isKind_5 : decode prog_1_method_77_code 5 = .ok (.iconst 5, 1) := by decide +kernel
theorem d_CM_isKind_6 : decode prog_1_method_77_code 6 = .ok (.if_icmp .gt (7), 3) := by decide +kernel
theorem d_CM_isKind_9 : decode prog_1_method_77_code 9 = .ok (.iconst 1, 1) := by decide +kernel
theorem d_CM_isKind_10 : decode prog_1_method_77_code 10 = .ok (.goto (4), 3) := by decide +kernel
theorem d_CM_isKind_13 : decode prog_1_method_77_code 13 = .ok (.iconst 0, 1) := by decide +kernel
theorem d_CM_isKind_14 : decode prog_1_method_77_code 14 = .ok (.ireturn, 1) := by decide +kernel
theorem d_MD_kinds_0 : decode prog_12_method_148_code 0 = .ok (.aload_n 0, 1) := by decide +kernel
theorem d_MD_kinds_1 : decode prog_12_method_148_code 1 = .ok (.iconst 0, 1) := by decide +kernel
theorem d_MD_kinds_2 : decode prog_12_method_148_code 2 = .ok (.putfield 74, 3) := by decide +kernel
theorem d_MD_kinds_5 : decode prog_12_method_148_code 5 = .ok (.iload_n 1, 1) := by decide +kernel
theorem d_MD_kinds_6 : decode prog_12_method_148_code 6 = .ok (.ifCond .lt (8), 3) := by decide +kernel
theorem d_MD_kinds_9 : decode prog_12_method_148_code 9 = .ok (.iload_n 1, 1) := by decide +kernel
theorem d_MD_kinds_10 : decode prog_12_method_148_code 10 = .ok (.iconst 5, 1) := by decide +kernel
theorem d_MD_kinds_11 : decode prog_12_method_148_code 11 = .ok (.if_icmp .le (5), 3) := by decide +kernel
theorem d_MD_kinds_14 : decode prog_12_method_148_code 14 = .ok (.iconst (-1), 1) := by decide +kernel
theorem d_MD_kinds_15 : decode prog_12_method_148_code 15 = .ok (.ireturn, 1) := by decide +kernel
theorem d_MD_kinds_16 : decode prog_12_method_148_code 16 = .ok (.iconst 0, 1) := by decide +kernel
theorem d_MD_kinds_17 : decode prog_12_method_148_code 17 = .ok (.istore_n 2, 1) := by decide +kernel
theorem d_MD_kinds_18 : decode prog_12_method_148_code 18 = .ok (.iconst 0, 1) := by decide +kernel
theorem d_MD_kinds_19 : decode prog_12_method_148_code 19 = .ok (.istore_n 3, 1) := by decide +kernel
theorem d_MD_kinds_20 : decode prog_12_method_148_code 20 = .ok (.iload_n 3, 1) := by decide +kernel
theorem d_MD_kinds_21 : decode prog_12_method_148_code 21 = .ok (.i2l, 1) := by decide +kernel
theorem d_MD_kinds_22 : decode prog_12_method_148_code 22 = .ok (.aload_n 0, 1) := by decide +kernel
theorem d_MD_kinds_23 : decode prog_12_method_148_code 23 = .ok (.getfield 21, 3) := by decide +kernel
theorem d_MD_kinds_26 : decode prog_12_method_148_code 26 = .ok (.sipush (168), 3) := by decide +kernel
theorem d_MD_kinds_29 : decode prog_12_method_148_code 29 = .ok (.laload, 1) := by decide +kernel
theorem d_MD_kinds_30 : decode prog_12_method_148_code 30 = .ok (.lcmp, 1) := by decide +kernel
theorem d_MD_kinds_31 : decode prog_12_method_148_code 31 = .ok (.ifCond .ge (34), 3) := by decide +kernel
theorem d_MD_kinds_65 : decode prog_12_method_148_code 65 = .ok (.iload_n 2, 1) := by decide +kernel
theorem d_MD_kinds_66 : decode prog_12_method_148_code 66 = .ok (.ireturn, 1) := by decide +kernel
theorem d_CM_pairs_0 : decode prog_1_method_68_code 0 = .ok (.iload_n 1, 1) := by decide +kernel
theorem d_CM_pairs_1 : decode prog_1_method_68_code 1 = .ok (.invokestatic 154, 3) := by decide +kernel
theorem d_CM_isThird_0 : decode prog_1_method_75_code 0 = .ok (.iload_n 0, 1) := by decide +kernel
theorem d_CM_isThird_1 : decode prog_1_method_75_code 1 = .ok (.ifCond .lt (12), 3) := by decide +kernel
theorem d_CM_isThird_4 : decode prog_1_method_75_code 4 = .ok (.iload_n 0, 1) := by decide +kernel
theorem d_CM_isThird_5 : decode prog_1_method_75_code 5 = .ok (.iconst 3, 1) := by decide +kernel
theorem d_CM_isThird_6 : decode prog_1_method_75_code 6 = .ok (.if_icmp .ge (7), 3) := by decide +kernel
theorem d_CM_isThird_9 : decode prog_1_method_75_code 9 = .ok (.iconst 1, 1) := by decide +kernel
theorem d_CM_isThird_10 : decode prog_1_method_75_code 10 = .ok (.goto (4), 3) := by decide +kernel
theorem d_CM_isThird_13 : decode prog_1_method_75_code 13 = .ok (.iconst 0, 1) := by decide +kernel
theorem d_CM_isThird_14 : decode prog_1_method_75_code 14 = .ok (.ireturn, 1) := by decide +kernel
theorem d_MD_pairs_0 : decode prog_12_method_149_code 0 = .ok (.aload_n 0, 1) := by decide +kernel
theorem d_MD_pairs_1 : decode prog_12_method_149_code 1 = .ok (.iconst 0, 1) := by decide +kernel
theorem d_MD_pairs_2 : decode prog_12_method_149_code 2 = .ok (.putfield 74, 3) := by decide +kernel
theorem d_MD_pairs_5 : decode prog_12_method_149_code 5 = .ok (.iload_n 1, 1) := by decide +kernel
theorem d_MD_pairs_6 : decode prog_12_method_149_code 6 = .ok (.ifCond .lt (8), 3) := by decide +kernel
theorem d_MD_pairs_9 : decode prog_12_method_149_code 9 = .ok (.iload_n 1, 1) := by decide +kernel
theorem d_MD_pairs_10 : decode prog_12_method_149_code 10 = .ok (.iconst 2, 1) := by decide +kernel
theorem d_MD_pairs_11 : decode prog_12_method_149_code 11 = .ok (.if_icmp .le (5), 3) := by decide +kernel
theorem d_MD_pairs_14 : decode prog_12_method_149_code 14 = .ok (.iconst (-1), 1) := by decide +kernel
theorem d_MD_pairs_15 : decode prog_12_method_149_code 15 = .ok (.ireturn, 1) := by decide +kernel
theorem d_MD_pairs_16 : decode prog_12_method_149_code 16 = .ok (.iconst 0, 1) := by decide +kernel
theorem d_MD_pairs_17 : decode prog_12_method_149_code 17 = .ok (.istore_n 2, 1) := by decide +kernel
theorem d_MD_pairs_18 : decode prog_12_method_149_code 18 = .ok (.iconst 0, 1) := by decide +kernel
theorem d_MD_pairs_19 : decode prog_12_method_149_code 19 = .ok (.istore_n 3, 1) := by decide +kernel
theorem d_MD_pairs_20 : decode prog_12_method_149_code 20 = .ok (.iload_n 3, 1) := by decide +kernel
theorem d_MD_pairs_21 : decode prog_12_method_149_code 21 = .ok (.i2l, 1) := by decide +kernel
theorem d_MD_pairs_22 : decode prog_12_method_149_code 22 = .ok (.aload_n 0, 1) := by decide +kernel
theorem d_MD_pairs_23 : decode prog_12_method_149_code 23 = .ok (.getfield 21, 3) := by decide +kernel
theorem d_MD_pairs_26 : decode prog_12_method_149_code 26 = .ok (.sipush (168), 3) := by decide +kernel
theorem d_MD_pairs_29 : decode prog_12_method_149_code 29 = .ok (.laload, 1) := by decide +kernel
theorem d_MD_pairs_30 : decode prog_12_method_149_code 30 = .ok (.lcmp, 1) := by decide +kernel
theorem d_MD_pairs_31 : decode prog_12_method_149_code 31 = .ok (.ifCond .ge (54), 3) := by decide +kernel
theorem d_MD_pairs_85 : decode prog_12_method_149_code 85 = .ok (.iload_n 2, 1) := by decide +kernel
theorem d_MD_pairs_86 : decode prog_12_method_149_code 86 = .ok (.ireturn, 1) := by decide +kernel
theorem d_CM_spell_0 : decode prog_1_method_69_code 0 = .ok (.aload_n 0, 1) := by decide +kernel
theorem d_CM_spell_1 : decode prog_1_method_69_code 1 = .ok (.getfield 12, 3) := by decide +kernel
theorem d_CM_spell_4 : decode prog_1_method_69_code 4 = .ok (.iload_n 1, 1) := by decide +kernel
theorem d_CM_spell_5 : decode prog_1_method_69_code 5 = .ok (.invokevirtual 151, 3) := by decide +kernel
theorem d_CM_spell_8 : decode prog_1_method_69_code 8 = .ok (.ifCond .eq (8), 3) := by decide +kernel
theorem d_CM_spell_16 : decode prog_1_method_69_code 16 = .ok (.iconst (-1), 1) := by decide +kernel
theorem d_CM_spell_17 : decode prog_1_method_69_code 17 = .ok (.ireturn, 1) := by decide +kernel
theorem d_MD_spell_0 : decode prog_12_method_134_code 0 = .ok (.aload_n 0, 1) := by decide +kernel
theorem d_MD_spell_1 : decode prog_12_method_134_code 1 = .ok (.iconst 0, 1) := by decide +kernel
theorem d_MD_spell_2 : decode prog_12_method_134_code 2 = .ok (.putfield 74, 3) := by decide +kernel
theorem d_MD_spell_5 : decode prog_12_method_134_code 5 = .ok (.aload_n 0, 1) := by decide +kernel
theorem d_MD_spell_6 : decode prog_12_method_134_code 6 = .ok (.iload_n 1, 1) := by decide +kernel
theorem d_MD_spell_7 : decode prog_12_method_134_code 7 = .ok (.invokevirtual 241, 3) := by decide +kernel
theorem d_MD_spell_10 : decode prog_12_method_134_code 10 = .ok (.ifCond .eq (8), 3) := by decide +kernel
theorem d_MD_spell_18 : decode prog_12_method_134_code 18 = .ok (.iconst (-1), 1) := by decide +kernel
theorem d_MD_spell_19 : decode prog_12_method_134_code 19 = .ok (.ireturn, 1) := by decide +kernel
theorem d_CM_kept_0 : decode prog_1_method_70_code 0 = .ok (.aload_n 0, 1) := by decide +kernel
theorem d_CM_kept_1 : decode prog_1_method_70_code 1 = .ok (.getfield 12, 3) := by decide +kernel
theorem d_CM_kept_4 : decode prog_1_method_70_code 4 = .ok (.iload_n 1, 1) := by decide +kernel
theorem d_CM_kept_5 : decode prog_1_method_70_code 5 = .ok (.invokevirtual 151, 3) := by decide +kernel
theorem d_CM_kept_8 : decode prog_1_method_70_code 8 = .ok (.ifCond .ne (5), 3) := by decide +kernel
theorem d_CM_kept_11 : decode prog_1_method_70_code 11 = .ok (.iconst (-1), 1) := by decide +kernel
theorem d_CM_kept_12 : decode prog_1_method_70_code 12 = .ok (.ireturn, 1) := by decide +kernel
theorem d_MD_kept_0 : decode prog_12_method_78_code 0 = .ok (.aload_n 0, 1) := by decide +kernel
theorem d_MD_kept_1 : decode prog_12_method_78_code 1 = .ok (.iconst 0, 1) := by decide +kernel
theorem d_MD_kept_2 : decode prog_12_method_78_code 2 = .ok (.putfield 74, 3) := by decide +kernel
theorem d_MD_kept_5 : decode prog_12_method_78_code 5 = .ok (.aload_n 0, 1) := by decide +kernel
theorem d_MD_kept_6 : decode prog_12_method_78_code 6 = .ok (.iload_n 1, 1) := by decide +kernel
theorem d_MD_kept_7 : decode prog_12_method_78_code 7 = .ok (.invokevirtual 241, 3) := by decide +kernel
theorem d_MD_kept_10 : decode prog_12_method_78_code 10 = .ok (.ifCond .ne (5), 3) := by decide +kernel
theorem d_MD_kept_13 : decode prog_12_method_78_code 13 = .ok (.iconst (-1), 1) := by decide +kernel
theorem d_MD_kept_14 : decode prog_12_method_78_code 14 = .ok (.ireturn, 1) := by decide +kernel
theorem d_CM_find_0 : decode prog_1_method_71_code 0 = .ok (.aload_n 0, 1) := by decide +kernel
theorem d_CM_find_1 : decode prog_1_method_71_code 1 = .ok (.getfield 12, 3) := by decide +kernel
theorem d_CM_find_4 : decode prog_1_method_71_code 4 = .ok (.iload_n 1, 1) := by decide +kernel
theorem d_CM_find_5 : decode prog_1_method_71_code 5 = .ok (.invokevirtual 127, 3) := by decide +kernel
theorem d_CM_find_8 : decode prog_1_method_71_code 8 = .ok (.ifCond .eq (14), 3) := by decide +kernel
theorem d_CM_find_22 : decode prog_1_method_71_code 22 = .ok (.iconst (-1), 1) := by decide +kernel
theorem d_CM_find_23 : decode prog_1_method_71_code 23 = .ok (.ireturn, 1) := by decide +kernel
theorem d_MD_find_0 : decode prog_12_method_157_code 0 = .ok (.aload_n 0, 1) := by decide +kernel
theorem d_MD_find_1 : decode prog_12_method_157_code 1 = .ok (.iconst 0, 1) := by decide +kernel
theorem d_MD_find_2 : decode prog_12_method_157_code 2 = .ok (.putfield 74, 3) := by decide +kernel
theorem d_MD_find_5 : decode prog_12_method_157_code 5 = .ok (.aload_n 0, 1) := by decide +kernel
theorem d_MD_find_6 : decode prog_12_method_157_code 6 = .ok (.iload_n 1, 1) := by decide +kernel
theorem d_MD_find_7 : decode prog_12_method_157_code 7 = .ok (.invokevirtual 238, 3) := by decide +kernel
theorem d_MD_find_10 : decode prog_12_method_157_code 10 = .ok (.ifCond .eq (11), 3) := by decide +kernel
theorem d_MD_find_21 : decode prog_12_method_157_code 21 = .ok (.iconst (-1), 1) := by decide +kernel
theorem d_MD_find_22 : decode prog_12_method_157_code 22 = .ok (.ireturn, 1) := by decide +kernel
theorem d_CM_size_0 : decode prog_1_method_72_code 0 = .ok (.aload_n 0, 1) := by decide +kernel
theorem d_CM_size_1 : decode prog_1_method_72_code 1 = .ok (.getfield 12, 3) := by decide +kernel
theorem d_CM_size_4 : decode prog_1_method_72_code 4 = .ok (.iload_n 1, 1) := by decide +kernel
theorem d_CM_size_5 : decode prog_1_method_72_code 5 = .ok (.invokevirtual 151, 3) := by decide +kernel
theorem d_CM_size_8 : decode prog_1_method_72_code 8 = .ok (.ifCond .eq (19), 3) := by decide +kernel
theorem d_CM_size_27 : decode prog_1_method_72_code 27 = .ok (.iconst (-1), 1) := by decide +kernel
theorem d_CM_size_28 : decode prog_1_method_72_code 28 = .ok (.ireturn, 1) := by decide +kernel
theorem d_MD_size_0 : decode prog_12_method_158_code 0 = .ok (.aload_n 0, 1) := by decide +kernel
theorem d_MD_size_1 : decode prog_12_method_158_code 1 = .ok (.iconst 0, 1) := by decide +kernel
theorem d_MD_size_2 : decode prog_12_method_158_code 2 = .ok (.putfield 74, 3) := by decide +kernel
theorem d_MD_size_5 : decode prog_12_method_158_code 5 = .ok (.aload_n 0, 1) := by decide +kernel
theorem d_MD_size_6 : decode prog_12_method_158_code 6 = .ok (.iload_n 1, 1) := by decide +kernel
theorem d_MD_size_7 : decode prog_12_method_158_code 7 = .ok (.invokevirtual 241, 3) := by decide +kernel
theorem d_MD_size_10 : decode prog_12_method_158_code 10 = .ok (.ifCond .eq (11), 3) := by decide +kernel
theorem d_MD_size_21 : decode prog_12_method_158_code 21 = .ok (.iconst (-1), 1) := by decide +kernel
theorem d_MD_size_22 : decode prog_12_method_158_code 22 = .ok (.ireturn, 1) := by decide +kernel
theorem d_CM_count_0 : decode prog_1_method_73_code 0 = .ok (.iload_n 1, 1) := by decide +kernel
theorem d_MD_count_0 : decode prog_12_method_161_code 0 = .ok (.aload_n 0, 1) := by decide +kernel
theorem d_MD_count_1 : decode prog_12_method_161_code 1 = .ok (.iconst 0, 1) := by decide +kernel
theorem d_MD_count_2 : decode prog_12_method_161_code 2 = .ok (.putfield 74, 3) := by decide +kernel
theorem d_MD_count_5 : decode prog_12_method_161_code 5 = .ok (.iload_n 1, 1) := by decide +kernel
end
