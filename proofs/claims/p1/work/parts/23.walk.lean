/-! the law's walk on scripts of at most six ints -/
theorem im_CM_init : Cond.instanceMethod M_CM_init.1 ∈ gtbl := g_at 35 (by decide +kernel) rfl
theorem im_MD_init : Cond.instanceMethod M_MD_init.1 ∈ gtbl := g_at 1494 (by decide +kernel) rfl
theorem L_Law_8 : Cond.classLink "CornerMapsLaw" 8 "CornerMaps" ∈ gtbl := g_at 32 (by decide +kernel) rfl
theorem L_Law_24 : Cond.methodLink "CornerMapsLaw" 24 ⟨"CornerMaps", "<init>", "()V"⟩ ∈ gtbl := g_at 34 (by decide +kernel) rfl
theorem L_Law_25 : Cond.classLink "CornerMapsLaw" 25 "CornerMapsModel" ∈ gtbl := g_at 1491 (by decide +kernel) rfl
theorem L_Law_27 : Cond.methodLink "CornerMapsLaw" 27 ⟨"CornerMapsModel", "<init>", "()V"⟩ ∈ gtbl := g_at 1493 (by decide +kernel) rfl
theorem has_nil {f : Nat → pE} : Has [] f := fun q hq => by cases hq
theorem has_cons {f : Nat → pE} {r : Nat} {e : pE} {l : List (Nat × pE)} (h : f r = e) (t : Has l f) : Has ((r, e) :: l) f := fun q hq => (List.mem_cons.mp hq).elim (fun h1 => by rw [h1]; exact h) (t q)
theorem cf_lt : ∀ q ∈ cfL, q.1 < 467 := by decide
theorem mf_lt : ∀ q ∈ mfL, q.1 < 486 := by decide
def tgF (j : Nat) : Nat := ([344, 417, 442, 467, 547, 627, 695, 720, 745, 770, 807, 844, 881, 906, 943, 968, 1017, 1042, 1055, 1129, 1203, 1277, 1315, 1353, 1402, 1439, 1464, 1489, 1514, 1551, 1588, 1625, 1662, 1699, 1749, 1798, 1872, 1946, 2008, 2070, 2107, 2144, 2181, 2218, 2268, 2305, 2342, 2379, 2416, 2453, 2478, 2527, 2601, 2662, 2712, 2761, 2811, 2861, 2886, 2948, 2986, 3035, 3084, 3121, 3147, 3172, 3197, 3222, 3259, 3284, 3321, 3346] : List Nat).getD j 0
theorem off_ok : ∀ j, j < 72 → (#[304, 377, 402, 427, 507, 587, 655, 680, 705, 730, 767, 804, 841, 866, 903, 928, 977, 1002, 1015, 1089, 1163, 1237, 1275, 1313, 1362, 1399, 1424, 1449, 1474, 1511, 1548, 1585, 1622, 1659, 1709, 1758, 1832, 1906, 1968, 2030, 2067, 2104, 2141, 2178, 2228, 2265, 2302, 2339, 2376, 2413, 2438, 2487, 2561, 2622, 2672, 2721, 2771, 2821, 2846, 2908, 2946, 2995, 3044, 3081, 3107, 3132, 3157, 3182, 3219, 3244, 3281, 3306] : Array Int)[j]? = some ((tgF j : Int) - 40) := by decide +kernel
/-- the law's own end, whatever the arguments -/
theorem lw_retA {p : Program} {l : Launch} {e : Env} {s : State} {m : MethodId} {args : Array Value} {below : List Frame} {meth : Method} {c : Code} (hx : p.tables.exec = Jvm.exec) (hb : c.code = code) (hr : meth.sig.returnType = ret) (hlocks : meth.locks = false) {pc : Nat} {H : Heap} {ls : Array Slot} (hdg : decode code pc = .ok (.ireturn, 1)) : W p l e room_1 s m args below meth c H [] 600002 7302232 (lw_Z below args s) (F0 m pc ls [.int 1]) := by
  intro T hT X
  obtain ⟨fs, hret, hrun, hended, hW, hframe⟩ := X.leave (v := some (.int 1)) (hlocks := hlocks) (fun h => by rw [hr] at h; cases h)
  have hmeth' : T.vm.method? m = some meth := X.method'
  refine ⟨T.setFrames fs, ?_, .returned (some (.int 1)), hrun, hended, rfl, ⟨_, rfl⟩, hW, hframe⟩
  jvm_step X.here [X.here.top, hx, hb, hdg, hmeth', hr, ret, narrow_b1]
  (try refine ⟨rfl, ?_⟩); (try refine ⟨rfl, ?_⟩)
  first | (intro acts; rw [hret _ acts rfl rfl rfl]) | rw [hret _ _ rfl rfl rfl]
  exact Steps.refl _
theorem law_ret {G : pG} {w : pW} {k n : Nat} {lv : List (Nat × Value)} (h1 : k ≤ 600002) (h2 : n ≤ 7302232) : PW G M_Law_law room_1 (QL G) k n (3377, lv, [], w) := by
  refine P_iconst (v := 1) d_Law_law_3377 (by decide) ?_
  intro p e s m args below meth c hc H locs ls hl hH hS
  by_cases hb : s.heap.size ≤ g_b G
  · intro T hT X
    obtain ⟨t, a, z⟩ := (W.widen h1 h2 (va_forget (fun q hq => Nat.le_trans hb (hS.2.2 q hq)) (lw_retA hc.1 hc.2.1 hc.2.2.2.1 hc.2.2.2.2.1 d_Law_law_3378)) : W p (g_l G) e room_1 s m args below meth c H locs k n (lw_Z below args s) (F0 m 3378 ls [.int 1])) T hT X
    exact ⟨t, a, fun b _ _ => z⟩
  · intro T hT X
    obtain ⟨t, a, z⟩ := P_zret (G := G) (M := M_Law_law) (R := room_1) (k := k) (n := n) (pc := 3378) (mc := k) (ms := n) (lv := lv) (w := w) (v := 1) (Q := fun _ _ => True) (t := .boolean) d_Law_law_3378 rfl rfl (Nat.le_refl _) (Nat.le_refl _) trivial p e s m args below meth c hc H locs ls hl hH hS T hT X
    exact ⟨t, a, fun b _ h => absurd h hb⟩
theorem law_all {G : pG} {w : pW} {xs : Nat → Int32} (hl : (g_l G).stackTraces = false) (hC : Has cfL w.2) (hM : Has mfL w.2) (hs : w.2 1000000 = .inl (0, 6, .inl xs)) (hx : w.1 < 1000000) (hend : ∀ w' : pW, PW G M_Law_law room_1 (QL G) 500 12000 (3371, lvE, [], w')) : ∀ j, j < 72 → PW G M_Law_law room_1 (QL G) 487 11543 (tgF j, lvE, [], w) := by
  intro j hj
  match j, hj with
  | 0, _ => exact law_0 hl hC hM hs hx hend
  | 1, _ => exact law_1 hl hC hM hs hx hend
  | 2, _ => exact law_2 hl hC hM hs hx hend
  | 3, _ => exact law_3 hl hC hM hs hx hend
  | 4, _ => exact law_4 hl hC hM hs hx hend
  | 5, _ => exact law_5 hl hC hM hs hx hend
  | 6, _ => exact law_6 hl hC hM hs hx hend
  | 7, _ => exact law_7 hl hC hM hs hx hend
  | 8, _ => exact law_8 hl hC hM hs hx hend
  | 9, _ => exact law_9 hl hC hM hs hx hend
  | 10, _ => exact law_10 hl hC hM hs hx hend
  | 11, _ => exact law_11 hl hC hM hs hx hend
  | 12, _ => exact law_12 hl hC hM hs hx hend
  | 13, _ => exact law_13 hl hC hM hs hx hend
  | 14, _ => exact law_14 hl hC hM hs hx hend
  | 15, _ => exact law_15 hl hC hM hs hx hend
  | 16, _ => exact law_16 hl hC hM hs hx hend
  | 17, _ => exact law_17 hl hC hM hs hx hend
  | 18, _ => exact law_18 hl hC hM hs hx hend
  | 19, _ => exact law_19 hl hC hM hs hx hend
  | 20, _ => exact law_20 hl hC hM hs hx hend
  | 21, _ => exact law_21 hl hC hM hs hx hend
  | 22, _ => exact law_22 hl hC hM hs hx hend
  | 23, _ => exact law_23 hl hC hM hs hx hend
  | 24, _ => exact law_24 hl hC hM hs hx hend
  | 25, _ => exact law_25 hl hC hM hs hx hend
  | 26, _ => exact law_26 hl hC hM hs hx hend
  | 27, _ => exact law_27 hl hC hM hs hx hend
  | 28, _ => exact law_28 hl hC hM hs hx hend
  | 29, _ => exact law_29 hl hC hM hs hx hend
  | 30, _ => exact law_30 hl hC hM hs hx hend
  | 31, _ => exact law_31 hl hC hM hs hx hend
  | 32, _ => exact law_32 hl hC hM hs hx hend
  | 33, _ => exact law_33 hl hC hM hs hx hend
  | 34, _ => exact law_34 hl hC hM hs hx hend
  | 35, _ => exact law_35 hl hC hM hs hx hend
  | 36, _ => exact law_36 hl hC hM hs hx hend
  | 37, _ => exact law_37 hl hC hM hs hx hend
  | 38, _ => exact law_38 hl hC hM hs hx hend
  | 39, _ => exact law_39 hl hC hM hs hx hend
  | 40, _ => exact law_40 hl hC hM hs hx hend
  | 41, _ => exact law_41 hl hC hM hs hx hend
  | 42, _ => exact law_42 hl hC hM hs hx hend
  | 43, _ => exact law_43 hl hC hM hs hx hend
  | 44, _ => exact law_44 hl hC hM hs hx hend
  | 45, _ => exact law_45 hl hC hM hs hx hend
  | 46, _ => exact law_46 hl hC hM hs hx hend
  | 47, _ => exact law_47 hl hC hM hs hx hend
  | 48, _ => exact law_48 hl hC hM hs hx hend
  | 49, _ => exact law_49 hl hC hM hs hx hend
  | 50, _ => exact law_50 hl hC hM hs hx hend
  | 51, _ => exact law_51 hl hC hM hs hx hend
  | 52, _ => exact law_52 hl hC hM hs hx hend
  | 53, _ => exact law_53 hl hC hM hs hx hend
  | 54, _ => exact law_54 hl hC hM hs hx hend
  | 55, _ => exact law_55 hl hC hM hs hx hend
  | 56, _ => exact law_56 hl hC hM hs hx hend
  | 57, _ => exact law_57 hl hC hM hs hx hend
  | 58, _ => exact law_58 hl hC hM hs hx hend
  | 59, _ => exact law_59 hl hC hM hs hx hend
  | 60, _ => exact law_60 hl hC hM hs hx hend
  | 61, _ => exact law_61 hl hC hM hs hx hend
  | 62, _ => exact law_62 hl hC hM hs hx hend
  | 63, _ => exact law_63 hl hC hM hs hx hend
  | 64, _ => exact law_64 hl hC hM hs hx hend
  | 65, _ => exact law_65 hl hC hM hs hx hend
  | 66, _ => exact law_66 hl hC hM hs hx hend
  | 67, _ => exact law_67 hl hC hM hs hx hend
  | 68, _ => exact law_68 hl hC hM hs hx hend
  | 69, _ => exact law_69 hl hC hM hs hx hend
  | 70, _ => exact law_70 hl hC hM hs hx hend
  | 71, _ => exact law_71 hl hC hM hs hx hend
  | q + 72, h => exact absurd h (by omega)
theorem law_loop {G : pG} {f : Nat → pE} {L : Nat} {xs : Nat → Int32} (hl : (g_l G).stackTraces = false) (hw : g_w G = gwF L xs) (hL : L ≤ 6) (hC : Has cfL f) (hM : Has mfL f) (hx : ∀ k, f (1000000 + k) = g_w G k) : PW G M_Law_law room_1 (QL G) 487 11543 (23, lvE, [], (487, f)) := by
  have hs : f 1000000 = .inl (0, L, .inl xs) := by
    have := hx 0
    rw [hw] at this
    exact this
  refine P_iload d_Law_law_23 rfl ?_
  refine P_aload_n d_Law_law_25 rfl ?_
  refine P_alen (w := (487, f)) (v := nI L) d_Law_law_26 hs rfl ?_
  refine P_bipush (v := 6) d_Law_law_27 (by decide) ?_
  refine P_isub d_Law_law_29 ?_
  refine P_icmp_gt 3377 d_Law_law_30 (by decide) (fun _ => law_ret (le_b rfl) (le_b rfl)) (fun c => ?_)
  have hL6 : L = 6 := by
    match L, hL, c with
    | 0, _, c => exact absurd (by decide) c
    | 1, _, c => exact absurd (by decide) c
    | 2, _, c => exact absurd (by decide) c
    | 3, _, c => exact absurd (by decide) c
    | 4, _, c => exact absurd (by decide) c
    | 5, _, c => exact absurd (by decide) c
    | 6, _, _ => rfl
  subst hL6
  have hend : ∀ w' : pW, PW G M_Law_law room_1 (QL G) 500 12000 (3371, lvE, [], w') := by
    intro w'
    refine P_iinc (v := 6) d_Law_law_3371 (by decide) rfl (by decide) rfl ?_
    refine P_goto 23 d_Law_law_3374 (by decide) ?_
    refine PW.ext (fun x => ?_)
    have hs1 : w'.2 1000000 = .inl (0, 6, .inl xs) := by
      have := x 0
      rw [hw] at this
      exact this
    refine P_iload d_Law_law_23 rfl ?_
    refine P_aload_n d_Law_law_25 rfl ?_
    refine P_alen (v := 6) d_Law_law_26 hs1 rfl ?_
    refine P_bipush (v := 6) d_Law_law_27 (by decide) ?_
    refine P_isub d_Law_law_29 ?_
    exact P_icmp_gt 3377 d_Law_law_30 (by decide) (fun _ => law_ret (le_b rfl) (le_b rfl)) (fun c => absurd (by decide) c)
  refine P_aload_n d_Law_law_33 rfl ?_
  refine P_iload d_Law_law_34 rfl ?_
  refine P_iald (w := (487, f)) (j := 0) d_Law_law_36 hs ⟨by decide, by decide⟩ (by decide) ?_
  refine P_bipush (v := 127) d_Law_law_37 (by decide) ?_
  refine P_iand d_Law_law_39 ?_
  obtain ⟨j, hj, e⟩ := pk_andE (xs 0) (m := 127) 7 (by decide)
  rw [e]
  have hj : j < 128 := hj
  have ht : (nI j).toInt = (j : Int) := nI_toInt (by omega)
  by_cases h72 : j < 72
  · refine P_tswIn (tgF j) (off := (tgF j : Int) - 40) d_law_40 (by rw [ht]; omega) (by rw [ht]; omega) ?_ (by omega) ?_
    · rw [ht, show ((j : Int) - 0).toNat = j by omega]
      exact off_ok j h72
    · exact law_all (w := (487, f)) hl hC hM hs (le_b rfl) hend j h72
  · refine P_tswOut 3371 d_law_40 (Or.inr (by rw [ht]; omega)) (by decide) ?_
    exact PW.wide (le_b rfl) (le_b rfl) (hend _)
set_option maxRecDepth 20000 in
theorem law_main {G : pG} {w0 : Nat → pE} {L : Nat} {xs : Nat → Int32} (hl : (g_l G).stackTraces = false) (hw : g_w G = gwF L xs) (hL : L ≤ 6) (x0 : ∀ k, w0 (1000000 + k) = g_w G k) : PW G M_Law_law room_1 (QL G) 0 0 (0, [(0, .ref 1000000)], [], (0, w0)) := by
  refine P_new (fs := [.null, .null, .null, .null, .null, .null, .null, .null, .null, .null, .null, .null, .null, .null, .null, .null, .null, .null]) d_Law_law_0 ok_CM L_Law_8 in_CM.1 in_CM.2 rfl (fun j hj => by rcases (show j = 0 ∨ j = 1 ∨ j = 2 ∨ j = 3 ∨ j = 4 ∨ j = 5 ∨ j = 6 ∨ j = 7 ∨ j = 8 ∨ j = 9 ∨ j = 10 ∨ j = 11 ∨ j = 12 ∨ j = 13 ∨ j = 14 ∨ j = 15 ∨ j = 16 ∨ j = 17 by omega) with rfl | rfl | rfl | rfl | rfl | rfl | rfl | rfl | rfl | rfl | rfl | rfl | rfl | rfl | rfl | rfl | rfl | rfl <;> rfl) (fun _ => rfl) (le_b rfl) (le_b rfl) (le_b rfl) ?_
  show PW _ _ _ _ _ _ (3, [(0, .ref 1000000)], [.ref 0], (1, wu w0 0 (.inr (8, [.null, .null, .null, .null, .null, .null, .null, .null, .null, .null, .null, .null, .null, .null, .null, .null, .null, .null]))))
  obtain ⟨f1, e1⟩ : ∃ f1 : Nat → pE, f1 = wu w0 0 (.inr (8, [.null, .null, .null, .null, .null, .null, .null, .null, .null, .null, .null, .null, .null, .null, .null, .null, .null, .null])) := ⟨_, rfl⟩
  rw [← e1]
  have h0 : f1 0 = .inr (8, [.null, .null, .null, .null, .null, .null, .null, .null, .null, .null, .null, .null, .null, .null, .null, .null, .null, .null]) := by rw [e1]; exact wu_s _ _ _
  have x1 : ∀ k, f1 (1000000 + k) = g_w G k := fun k => by rw [e1, wu_n (by omega)]; exact x0 k
  refine P_dup d_Law_law_3 rfl ?_
  refine P_callI (M := M_Law_law) (pc := 4) (as := []) (b := 0) d_Law_law_4 co_CM_init rfl rfl L_Law_24 im_CM_init (c_CM_init f1 h0) rfl ⟨le_b rfl, le_b rfl⟩ ⟨le_b rfl, le_b rfl⟩ (le_b rfl) ?_ _ rfl
  rintro _ _ ⟨rfl, g, rfl, k1, p1, p77, h154, h153, h156, h157, p158, h155, h165, h166, h167, h168, h164, h170, h171, h172, h173, h169, h190, h191, h189, h448, h447, h449, h450, h451, h452, h453, h454, h455, h456, h457, h458, h466, h0⟩
  show PW _ _ _ _ _ _ (7, [(0, .ref 1000000)], [.ref 0], (467, g))
  have hC : Has cfL g := has_cons h154 (has_cons h153 (has_cons h156 (has_cons h157 (has_cons h155 (has_cons h165 (has_cons h166 (has_cons h167 (has_cons h168 (has_cons h164 (has_cons h170 (has_cons h171 (has_cons h172 (has_cons h169 (has_cons h190 (has_cons h189 (has_cons h448 (has_cons h447 (has_cons h449 (has_cons h450 (has_cons h451 (has_cons h452 (has_cons h453 (has_cons h454 (has_cons h455 (has_cons h456 (has_cons h457 (has_cons h466 (has_cons h0 (has_cons p1.1 (has_cons p77.1 (has_cons p1.2.2.2.2.1 (has_cons (p1.2.2.2.2.2.1 0 (by decide)) has_nil))))))))))))))))))))))))))))))))
  have x2 : ∀ k, g (1000000 + k) = g_w G k := fun k => (k1 _ (by omega) (Or.inr (by omega))).trans (x1 k)
  clear p1 p77 h154 h153 h156 h157 p158 h155 h165 h166 h167 h168 h164 h170 h171 h172 h173 h169 h190 h191 h189 h448 h447 h449 h450 h451 h452 h453 h454 h455 h456 h457 h458 h466 h0
  refine P_astore_n d_Law_law_7 (by decide) rfl ?_
  refine P_new (fs := [.int 0, .null, .int 0, .null, .null, .int 0, .int 0, .null, .null, .null, .int 0, .int 0, .int 0, .null, .null, .int 0, .int 0, .int 0, .int 0, .int 0, .int 0, .int 0, .int 0, .int 0, .int 0, .null, .null, .null, .null, .null, .null, .null, .null, .int 0, .null, .int 0, .null, .int 0]) d_Law_law_8 ok_Model L_Law_25 in_Model.1 in_Model.2 rfl (fun j hj => by rcases (show j = 0 ∨ j = 1 ∨ j = 2 ∨ j = 3 ∨ j = 4 ∨ j = 5 ∨ j = 6 ∨ j = 7 ∨ j = 8 ∨ j = 9 ∨ j = 10 ∨ j = 11 ∨ j = 12 ∨ j = 13 ∨ j = 14 ∨ j = 15 ∨ j = 16 ∨ j = 17 ∨ j = 18 ∨ j = 19 ∨ j = 20 ∨ j = 21 ∨ j = 22 ∨ j = 23 ∨ j = 24 ∨ j = 25 ∨ j = 26 ∨ j = 27 ∨ j = 28 ∨ j = 29 ∨ j = 30 ∨ j = 31 ∨ j = 32 ∨ j = 33 ∨ j = 34 ∨ j = 35 ∨ j = 36 ∨ j = 37 by omega) with rfl | rfl | rfl | rfl | rfl | rfl | rfl | rfl | rfl | rfl | rfl | rfl | rfl | rfl | rfl | rfl | rfl | rfl | rfl | rfl | rfl | rfl | rfl | rfl | rfl | rfl | rfl | rfl | rfl | rfl | rfl | rfl | rfl | rfl | rfl | rfl | rfl | rfl <;> rfl) (fun _ => rfl) (le_b rfl) (le_b rfl) (le_b rfl) ?_
  show PW _ _ _ _ _ _ (11, [(0, .ref 1000000), (1, .ref 0)], [.ref 467], (468, wu g 467 (.inr (9, [.int 0, .null, .int 0, .null, .null, .int 0, .int 0, .null, .null, .null, .int 0, .int 0, .int 0, .null, .null, .int 0, .int 0, .int 0, .int 0, .int 0, .int 0, .int 0, .int 0, .int 0, .int 0, .null, .null, .null, .null, .null, .null, .null, .null, .int 0, .null, .int 0, .null, .int 0]))))
  obtain ⟨f2, e2⟩ : ∃ f2 : Nat → pE, f2 = wu g 467 (.inr (9, [.int 0, .null, .int 0, .null, .null, .int 0, .int 0, .null, .null, .null, .int 0, .int 0, .int 0, .null, .null, .int 0, .int 0, .int 0, .int 0, .int 0, .int 0, .int 0, .int 0, .int 0, .int 0, .null, .null, .null, .null, .null, .null, .null, .null, .int 0, .null, .int 0, .null, .int 0])) := ⟨_, rfl⟩
  rw [← e2]
  have h467 : f2 467 = .inr (9, [.int 0, .null, .int 0, .null, .null, .int 0, .int 0, .null, .null, .null, .int 0, .int 0, .int 0, .null, .null, .int 0, .int 0, .int 0, .int 0, .int 0, .int 0, .int 0, .int 0, .int 0, .int 0, .null, .null, .null, .null, .null, .null, .null, .null, .int 0, .null, .int 0, .null, .int 0]) := by rw [e2]; exact wu_s _ _ _
  have x3 : ∀ k, f2 (1000000 + k) = g_w G k := fun k => by rw [e2, wu_n (by omega)]; exact x2 k
  have hC2 : Has cfL f2 := fun q hq => by
    have := cf_lt q hq
    rw [e2, wu_n (by omega)]
    exact hC q hq
  refine P_dup d_Law_law_11 rfl ?_
  refine P_callI (M := M_Law_law) (pc := 12) (as := []) (b := 467) d_Law_law_12 co_MD_init rfl rfl L_Law_27 im_MD_init (c_MD_init f2 h467) rfl ⟨le_b rfl, le_b rfl⟩ ⟨le_b rfl, le_b rfl⟩ (le_b rfl) ?_ _ rfl
  rintro _ _ ⟨rfl, g2, rfl, k2, h468, h469, h470, h471, h472, h473, h474, h475, h476, h477, h478, h479, h480, h481, h482, h483, h484, h485, h467⟩
  show PW _ _ _ _ _ _ (15, [(0, .ref 1000000), (1, .ref 0)], [.ref 467], (486, g2))
  have hM : Has mfL g2 := has_cons h468 (has_cons h469 (has_cons h470 (has_cons h471 (has_cons h472 (has_cons h473 (has_cons h474 (has_cons h475 (has_cons h476 (has_cons h477 (has_cons h478 (has_cons h479 (has_cons h480 (has_cons h481 (has_cons h482 (has_cons h483 (has_cons h484 (has_cons h485 (has_cons h467 has_nil))))))))))))))))))
  have x4 : ∀ k, g2 (1000000 + k) = g_w G k := fun k => (k2 _ (by omega) (Or.inr (by omega))).trans (x3 k)
  have hC3 : Has cfL g2 := fun q hq => by
    have := cf_lt q hq
    exact (k2 q.1 (by omega) (Or.inl (by omega))).trans (hC2 q hq)
  clear h468 h469 h470 h471 h472 h473 h474 h475 h476 h477 h478 h479 h480 h481 h482 h483 h484 h485 h467
  refine P_astore_n d_Law_law_15 (by decide) rfl ?_
  refine P_iconst (v := 1) d_Law_law_16 (by decide) ?_
  refine P_newarr (t := 1) (N := 1) (a0 := (1, .inr (.inl (fun _ => 0)))) d_Law_law_17 rfl (by decide) ac_long ⟨by decide, by decide⟩ (le_b rfl) ⟨rfl, fun _ _ => rfl⟩ (le_b rfl) (le_b rfl) (le_b rfl) ?_
  show PW _ _ _ _ _ _ (19, [(0, .ref 1000000), (1, .ref 0), (2, .ref 467)], [.ref 486], (487, wu g2 486 (.inl (1, 1, .inr (.inl (fun _ => 0))))))
  obtain ⟨f3, e3⟩ : ∃ f3 : Nat → pE, f3 = wu g2 486 (.inl (1, 1, .inr (.inl (fun _ => 0)))) := ⟨_, rfl⟩
  rw [← e3]
  have x5 : ∀ k, f3 (1000000 + k) = g_w G k := fun k => by rw [e3, wu_n (by omega)]; exact x4 k
  have hC4 : Has cfL f3 := fun q hq => by
    have := cf_lt q hq
    rw [e3, wu_n (by omega)]
    exact hC3 q hq
  have hM4 : Has mfL f3 := fun q hq => by
    have := mf_lt q hq
    rw [e3, wu_n (by omega)]
    exact hM q hq
  refine P_astore_n d_Law_law_19 (by decide) rfl ?_
  refine P_iconst (v := 0) d_Law_law_20 (by decide) ?_
  refine P_istore d_Law_law_21 (by decide) rfl ?_
  refine PW.wide (k' := 487) (n' := 11543) (le_b rfl) (le_b rfl) ?_
  exact law_loop hl hw hL hC4 hM4 x5
