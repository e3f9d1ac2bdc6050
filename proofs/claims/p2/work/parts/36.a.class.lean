/-! shapes: more of the class (by program) -/
theorem d_CM_count_1 : decode prog_1_method_73_code 1 = .ok (.tableswitch (99) 0 6 #[43, 51, 59, 67, 75, 83, 91], 43) := by decide +kernel
theorem d_MD_count_6 : decode prog_12_method_161_code 6 = .ok (.tableswitch (87) 0 6 #[42, 47, 52, 62, 72, 77, 82], 42) := by decide +kernel
theorem d_Past_undoLatest_37 : decode prog_5_method_8_code 37 = .ok (.tableswitch (72) 0 2 #[27, 40, 59], 27) := by decide +kernel
theorem thr_I : ThrOK "CornerMaps" 133 135 "java/lang/IndexOutOfBoundsException" := ⟨by decide +kernel, by decide +kernel, by decide +kernel⟩
theorem thr_N : ThrOK "CornerMaps" 139 141 "java/util/NoSuchElementException" := ⟨by decide +kernel, by decide +kernel, by decide +kernel⟩
theorem s_Plane_finitePoints {G : pG} {w : pW} (hI : I w) {b : Nat} (hb : b = 1 ∨ b = 77) : PM G M_Plane_finitePoints 1 0 0 [.ref b] w (fun r w' => (∃ v, r = some (.int v)) ∧ I w' ∧ Fr SC w w') := by
  refine PM_of pn_Plane_finitePoints (le_b rfl) ?_
  show PW _ _ _ _ _ _ (0, [(0, .ref b)], [], w)
  obtain ⟨hb1, hb2⟩ := pl_rng hb
  obtain ⟨lc, qc, mc, pc, eb, hlc, hqc, hmc, hpc⟩ := hI.pl hb
  refine P_iconst (v := 0) d_Plane_finitePoints_0 (by decide) ?_
  refine P_istore_n d_Plane_finitePoints_1 (by decide) rfl ?_
  refine P_iconst (v := 0) d_Plane_finitePoints_2 (by decide) ?_
  refine P_istore_n d_Plane_finitePoints_3 (by decide) rfl ?_
  refine PW_ind (σ := Int32 × pW) (pc) (fun jj ss => I (ss.2) ∧ Fr SC w (ss.2)) (fun jj ss => (4, [(0, .ref b), (1, .int ss.1), (2, .int (nI jj))], [], ss.2)) ?_ ?_ 0 (0, w) (by omega) ⟨hI, Fr.rf⟩
  · rintro ⟨j1_1, uj1⟩ ⟨hIj1, hFj1⟩
    show PW _ _ _ _ _ _ (4, [(0, .ref b), (1, .int j1_1), (2, .int (nI pc))], [], uj1)
    refine P_iload_n d_Plane_finitePoints_4 rfl ?_
    refine P_aload_n d_Plane_finitePoints_5 rfl ?_
    refine P_getf (i := 6) d_Plane_finitePoints_6 ok_Plane (by decide) L_Plane_36 ((hFj1.2 _ (SC_f (by omega))).trans eb) rfl ?_
    refine P_icmp_ge 33 d_Plane_finitePoints_9 (by decide) (fun _ => ?_) (fun h => absurd (Int32.le_refl _) h)
    refine P_iload_n d_Plane_finitePoints_33 rfl ?_
    exact P_iret d_Plane_finitePoints_34 rfl (le_b rfl) (le_b rfl) ⟨⟨_, rfl⟩, hIj1, hFj1⟩
  · rintro j1 ⟨j1_1, uj1⟩ hj1 ⟨hIj1, hFj1⟩ kkj1
    show PW _ _ _ _ _ _ (4, [(0, .ref b), (1, .int j1_1), (2, .int (nI j1))], [], uj1)
    refine P_iload_n d_Plane_finitePoints_4 rfl ?_
    refine P_aload_n d_Plane_finitePoints_5 rfl ?_
    refine P_getf (i := 6) d_Plane_finitePoints_6 ok_Plane (by decide) L_Plane_36 ((hFj1.2 _ (SC_f (by omega))).trans eb) rfl ?_
    refine P_icmp_ge 33 d_Plane_finitePoints_9 (by decide) (fun h => absurd h (nI_geF (a := j1) (b := pc) (by omega) (by omega))) (fun _ => ?_)
    refine P_aload_n d_Plane_finitePoints_12 rfl ?_
    refine P_getf (i := 2) d_Plane_finitePoints_13 ok_Plane (by decide) L_Plane_22 ((hFj1.2 _ (SC_f (by omega))).trans eb) rfl ?_
    refine P_iload_n d_Plane_finitePoints_16 rfl ?_
    refine P_aald (j := j1) (q := b + 19 + 1 + j1) d_Plane_finitePoints_17 (hIj1.ps hb) rfl (ix_nI (by omega)) (by omega) (rows_at (by omega)) ?_
    obtain ⟨f2, f2e⟩ := hIj1.row (r := b + 19 + 1 + j1) (by omega) (Kc_p hb (by omega))
    refine P_callS (M := M_Plane_finitePoints) (pc := 18) (as := [.ref (b + 19 + 1 + j1)]) d_Plane_finitePoints_18 co_Rows_isFinite L_Plane_53 sm_Rows_isFinite (s_Rows_isFinite f2e) rfl ⟨by decide, by decide⟩ ⟨by decide, by decide⟩ (by exact le_b rfl) ?_ _ rfl
    rintro _ u ⟨⟨v3, rfl⟩, eu⟩
    subst u
    show PW _ _ _ _ _ _ (21, [(0, .ref b), (1, .int j1_1), (2, .int (nI j1))], [.int (bi v3)], uj1)
    refine P_if_eq 27 d_Plane_finitePoints_21 (by decide) (fun c4 => ?_) (fun c4 => ?_)
    · refine P_iinc (v := nI (j1 + 1)) d_Plane_finitePoints_27 (by decide) rfl (nI_add j1 1) rfl ?_
      refine P_goto 4 d_Plane_finitePoints_30 (by decide) ?_
      exact kkj1 (j1_1, uj1) ⟨hIj1, hFj1⟩
    · refine P_iinc (v := j1_1 + Int32.ofInt 1) d_Plane_finitePoints_24 (by decide) rfl rfl rfl ?_
      show PW _ _ _ _ _ _ (27, [(0, .ref b), (1, .int (j1_1 + Int32.ofInt 1)), (2, .int (nI j1))], [], uj1)
      refine P_iinc (v := nI (j1 + 1)) d_Plane_finitePoints_27 (by decide) rfl (nI_add j1 1) rfl ?_
      refine P_goto 4 d_Plane_finitePoints_30 (by decide) ?_
      exact kkj1 (j1_1 + Int32.ofInt 1, uj1) ⟨hIj1, hFj1⟩
theorem s_CM_fault {G : pG} {w : pW} (hG : GO G) (hI : I w) (a1 : Int32) : PM G M_CM_fault 0 0 0 [.ref 0, .int a1] w (fun r w' => (∃ v, r = some (.int v)) ∧ I w' ∧ Fr SC w w') := by
  refine PM_of pn_CM_fault (le_b rfl) ?_
  show PW _ _ _ _ _ _ (0, [(0, .ref 0), (1, .int a1)], [], w)
  obtain ⟨b, hb, e0⟩ := hI.cm
  obtain ⟨hb1, hb2⟩ := pl_rng hb
  obtain ⟨lc, qc, mc, pc, eb, hlc, hqc, hmc, hpc⟩ := hI.pl hb
  refine P_iload_n d_CM_fault_0 rfl ?_
  refine P_if_ne 12 d_CM_fault_1 (by decide) (fun c1 => ?_) (fun c1 => ?_)
  · refine P_iload_n d_CM_fault_12 rfl ?_
    refine P_iconst (v := 1) d_CM_fault_13 (by decide) ?_
    refine P_icmp_ne 27 d_CM_fault_14 (by decide) (fun c2 => ?_) (fun c2 => ?_)
    · refine P_iconst (v := (-1)) d_CM_fault_27 (by decide) ?_
      exact P_iret d_CM_fault_28 rfl (le_b rfl) (le_b rfl) ⟨⟨_, rfl⟩, hI, Fr.rf⟩
    · refine P_aload_n d_CM_fault_17 rfl ?_
      refine P_getf (i := 3) d_CM_fault_18 ok_CM (by decide) L_CM_40 e0 rfl ?_
      obtain ⟨rb, y1, y2, y3, y4, y5, y6, y7, hrb, erd⟩ := hI.rdr
      refine P_getfN (i := 13) d_CM_fault_21 ok_Reader (by decide) L_CM_124 erd rfl ?_
      refine P_goto 28 d_CM_fault_24 (by decide) ?_
      exact P_iret d_CM_fault_28 rfl (le_b rfl) (le_b rfl) ⟨⟨_, rfl⟩, hI, Fr.rf⟩
  · refine P_aload_n d_CM_fault_4 rfl ?_
    refine P_getf (i := 3) d_CM_fault_5 ok_CM (by decide) L_CM_40 e0 rfl ?_
    obtain ⟨rb, y1, y2, y3, y4, y5, y6, y7, hrb, erd⟩ := hI.rdr
    refine P_getfN (i := 12) d_CM_fault_8 ok_Reader (by decide) L_CM_121 erd rfl ?_
    exact P_iret d_CM_fault_11 rfl (le_b rfl) (le_b rfl) ⟨⟨_, rfl⟩, hI, Fr.rf⟩
theorem s_CM_count {G : pG} {w : pW} (hG : GO G) (hI : I w) (a1 : Int32) : PM G M_CM_count 2 0 0 [.ref 0, .int a1] w (fun r w' => (∃ v, r = some (.int v)) ∧ I w' ∧ Fr SC w w') := by
  refine PM_of pn_CM_count (le_b rfl) ?_
  show PW _ _ _ _ _ _ (0, [(0, .ref 0), (1, .int a1)], [], w)
  obtain ⟨b, hb, e0⟩ := hI.cm
  obtain ⟨hb1, hb2⟩ := pl_rng hb
  obtain ⟨lc, qc, mc, pc, eb, hlc, hqc, hmc, hpc⟩ := hI.pl hb
  refine P_iload_n d_CM_count_0 rfl ?_
  by_cases t1 : a1 = 0
  · rw [t1]
    refine P_tswIn 44 d_CM_count_1 (by decide) (by decide) rfl (by decide) ?_
    refine P_aload_n d_CM_count_44 rfl ?_
    refine P_getf (i := 0) d_CM_count_45 ok_CM (by decide) L_CM_12 e0 rfl ?_
    refine P_getfN (i := 3) d_CM_count_48 ok_Plane (by decide) L_CM_118 eb rfl ?_
    exact P_iret d_CM_count_51 rfl (le_b rfl) (le_b rfl) ⟨⟨_, rfl⟩, hI, Fr.rf⟩
  by_cases t2 : a1 = 1
  · rw [t2]
    refine P_tswIn 52 d_CM_count_1 (by decide) (by decide) rfl (by decide) ?_
    refine P_aload_n d_CM_count_52 rfl ?_
    refine P_getf (i := 0) d_CM_count_53 ok_CM (by decide) L_CM_12 e0 rfl ?_
    refine P_getfN (i := 4) d_CM_count_56 ok_Plane (by decide) L_CM_415 eb rfl ?_
    exact P_iret d_CM_count_59 rfl (le_b rfl) (le_b rfl) ⟨⟨_, rfl⟩, hI, Fr.rf⟩
  by_cases t3 : a1 = 2
  · rw [t3]
    refine P_tswIn 60 d_CM_count_1 (by decide) (by decide) rfl (by decide) ?_
    refine P_aload_n d_CM_count_60 rfl ?_
    refine P_getf (i := 0) d_CM_count_61 ok_CM (by decide) L_CM_12 e0 rfl ?_
    refine P_getfN (i := 5) d_CM_count_64 ok_Plane (by decide) L_CM_225 eb rfl ?_
    exact P_iret d_CM_count_67 rfl (le_b rfl) (le_b rfl) ⟨⟨_, rfl⟩, hI, Fr.rf⟩
  by_cases t4 : a1 = 3
  · rw [t4]
    refine P_tswIn 68 d_CM_count_1 (by decide) (by decide) rfl (by decide) ?_
    refine P_aload_n d_CM_count_68 rfl ?_
    refine P_getf (i := 0) d_CM_count_69 ok_CM (by decide) L_CM_12 e0 rfl ?_
    refine P_getfN (i := 6) d_CM_count_72 ok_Plane (by decide) L_CM_232 eb rfl ?_
    exact P_iret d_CM_count_75 rfl (le_b rfl) (le_b rfl) ⟨⟨_, rfl⟩, hI, Fr.rf⟩
  by_cases t5 : a1 = 4
  · rw [t5]
    refine P_tswIn 76 d_CM_count_1 (by decide) (by decide) rfl (by decide) ?_
    refine P_aload_n d_CM_count_76 rfl ?_
    refine P_getf (i := 0) d_CM_count_77 ok_CM (by decide) L_CM_12 e0 rfl ?_
    refine P_callV (M := M_CM_count) (pc := 80) (as := []) (b := b) d_CM_count_80 co_Plane_finitePoints ok_Plane eb L_CM_257 im_Plane_finitePoints se_Plane_finitePoints (s_Plane_finitePoints hI hb) rfl ⟨by decide, by decide⟩ ⟨by decide, by decide⟩ (by exact le_b rfl) ?_ _ rfl
    rintro _ w6 ⟨⟨v6, rfl⟩, hI6, hG6⟩
    have hF6 : Fr SC w w6 := Fr.tr Fr.rf hG6
    show PW _ _ _ _ _ _ (83, [(0, .ref 0), (1, .int 4)], [.int v6], w6)
    exact P_iret d_CM_count_83 rfl (le_b rfl) (le_b rfl) ⟨⟨_, rfl⟩, hI6, hF6⟩
  by_cases t7 : a1 = 5
  · rw [t7]
    refine P_tswIn 84 d_CM_count_1 (by decide) (by decide) rfl (by decide) ?_
    refine P_aload_n d_CM_count_84 rfl ?_
    refine P_getf (i := 4) d_CM_count_85 ok_CM (by decide) L_CM_47 e0 rfl ?_
    obtain ⟨pel, pct, hpel, hpct, epa⟩ := hI.past
    refine P_getfN (i := 4) d_CM_count_88 ok_Past (by decide) L_CM_260 epa rfl ?_
    exact P_iret d_CM_count_91 rfl (le_b rfl) (le_b rfl) ⟨⟨_, rfl⟩, hI, Fr.rf⟩
  by_cases t8 : a1 = 6
  · rw [t8]
    refine P_tswIn 92 d_CM_count_1 (by decide) (by decide) rfl (by decide) ?_
    refine P_aload_n d_CM_count_92 rfl ?_
    refine P_getf (i := 2) d_CM_count_93 ok_CM (by decide) L_CM_24 e0 rfl ?_
    obtain ⟨tl, htl, etl⟩ := hI.tape
    refine P_getfN (i := 1) d_CM_count_96 ok_Tape (by decide) L_CM_107 etl rfl ?_
    exact P_iret d_CM_count_99 rfl (le_b rfl) (le_b rfl) ⟨⟨_, rfl⟩, hI, Fr.rf⟩
  refine P_tswOut 100 d_CM_count_1 (by simp only [← Int32.toInt_inj, Int32.reduceToInt] at t1 t2 t3 t4 t5 t7 t8; omega) (by decide) ?_
  refine P_iconst (v := (-1)) d_CM_count_100 (by decide) ?_
  exact P_iret d_CM_count_101 rfl (le_b rfl) (le_b rfl) ⟨⟨_, rfl⟩, hI, Fr.rf⟩
theorem s_CM_corner {G : pG} {w : pW} (hl : (g_l G).stackTraces = false) (hx : w.1 < 1000000) (hG : GO G) (hI : I w) (a1 : Int32) (a2 : Int32) (a3 : Int32) : XM G M_CM_corner 6 1 6 [.ref 0, .int a1, .int a2, .int a3] w (fun r w' => (∃ v, r = some (.int v)) ∧ I w' ∧ Fr SC w w') (fun E w' => (E = "java/lang/IndexOutOfBoundsException" ∨ E = "java/util/NoSuchElementException") ∧ w' = (w.1 + 1, w.2)) := by
  refine XM_of pn_CM_corner (le_b rfl) ?_
  show PW _ _ _ _ _ _ (0, [(0, .ref 0), (1, .int a1), (2, .int a2), (3, .int a3)], [], w)
  obtain ⟨b, hb, e0⟩ := hI.cm
  obtain ⟨hb1, hb2⟩ := pl_rng hb
  obtain ⟨lc, qc, mc, pc, eb, hlc, hqc, hmc, hpc⟩ := hI.pl hb
  refine P_aload_n d_CM_corner_0 rfl ?_
  refine P_getf (i := 0) d_CM_corner_1 ok_CM (by decide) L_CM_12 e0 rfl ?_
  refine P_iload_n d_CM_corner_4 rfl ?_
  refine P_callV (M := M_CM_corner) (pc := 5) (as := [.int a1]) (b := b) d_CM_corner_5 co_Plane_hasQuad ok_Plane eb L_CM_127 im_Plane_hasQuad se_Plane_hasQuad (s_Plane_hasQuad eb hlc hqc hmc hpc a1) rfl ⟨by decide, by decide⟩ ⟨by decide, by decide⟩ (by exact le_b rfl) ?_ _ rfl
  rintro _ u ⟨rfl, eu⟩
  subst u
  show PW _ _ _ _ _ _ (8, [(0, .ref 0), (1, .int a1), (2, .int a2), (3, .int a3)], [.int (bi (inN qc a1))], w)
  refine P_if_eq 18 d_CM_corner_8 (by decide) (fun c2 => ?_) (fun c2 => ?_)
  · exact P_throw hl thr_I co_CM_corner.1 d_CM_corner_18 d_CM_corner_21 d_CM_corner_22 d_CM_corner_25 ⟨le_b rfl, le_b rfl, le_b rfl, le_b rfl⟩ (le_b rfl) hx (le_b rfl) (le_b rfl) ⟨Or.inl rfl, rfl⟩
  · obtain ⟨a1N, ha1N, rfl⟩ := inN_of (bi_1 c2) (by omega)
    refine P_iload_n d_CM_corner_11 rfl ?_
    refine P_callS (M := M_CM_corner) (pc := 12) (as := [.int a2]) d_CM_corner_12 co_CM_isCorner L_CM_130 sm_CM_isCorner (s_CM_isCorner a2) rfl ⟨by decide, by decide⟩ ⟨by decide, by decide⟩ (by exact le_b rfl) ?_ _ rfl
    rintro _ u ⟨rfl, eu⟩
    subst u
    show PW _ _ _ _ _ _ (15, [(0, .ref 0), (1, .int (nI a1N)), (2, .int a2), (3, .int a3)], [.int (bi (inN 4 a2))], w)
    refine P_if_ne 26 d_CM_corner_15 (by decide) (fun c4 => ?_) (fun c4 => ?_)
    · obtain ⟨a2N, ha2N, rfl⟩ := inN_of (bi_1 c4) (by omega)
      refine P_iload_n d_CM_corner_26 rfl ?_
      refine P_callS (M := M_CM_corner) (pc := 27) (as := [.int a3]) d_CM_corner_27 co_CM_isPart L_CM_136 sm_CM_isPart (s_CM_isPart a3) rfl ⟨by decide, by decide⟩ ⟨by decide, by decide⟩ (by exact le_b rfl) ?_ _ rfl
      rintro _ u ⟨rfl, eu⟩
      subst u
      show PW _ _ _ _ _ _ (30, [(0, .ref 0), (1, .int (nI a1N)), (2, .int (nI a2N)), (3, .int a3)], [.int (bi (inN 2 a3))], w)
      refine P_if_ne 41 d_CM_corner_30 (by decide) (fun c6 => ?_) (fun c6 => ?_)
      · obtain ⟨a3N, ha3N, rfl⟩ := inN_of (bi_1 c6) (by omega)
        refine P_aload_n d_CM_corner_41 rfl ?_
        refine P_getf (i := 0) d_CM_corner_42 ok_CM (by decide) L_CM_12 e0 rfl ?_
        refine P_getfN (i := 0) d_CM_corner_45 ok_Plane (by decide) L_CM_142 eb rfl ?_
        refine P_iload_n d_CM_corner_48 rfl ?_
        refine P_aald (j := a1N) (q := b + 1 + 27 + 6 * a1N) d_CM_corner_49 (hI.qs hb) rfl (ix_nI (by omega)) (by omega) (pq_at (by omega)) ?_
        refine P_getfN (i := 0) d_CM_corner_50 ok_Quad (by decide) L_CM_146 (hI.quad hb (by omega)) rfl ?_
        refine P_iload_n d_CM_corner_53 rfl ?_
        refine P_aald (j := a2N) (q := b + 1 + 27 + 6 * a1N + 1 + 1 + a2N) d_CM_corner_54 (hI.rows (by omega) (Kc_q hb (by omega)).2.1) rfl (ix_nI (by omega)) (by omega) (rows_at (by omega)) ?_
        refine P_iload_n d_CM_corner_55 rfl ?_
        obtain ⟨f7, f7e⟩ := hI.row (r := b + 1 + 27 + 6 * a1N + 1 + 1 + a2N) (by omega) ((Kc_q hb (by omega)).2.2 _ (by omega))
        refine P_lald (j := a3N) d_CM_corner_56 f7e (ix_nI (by omega)) (by omega) ?_
        refine P_l2i d_CM_corner_57 ?_
        refine PW.toX ?_
        exact P_iret d_CM_corner_58 rfl (le_b rfl) (le_b rfl) ⟨⟨_, rfl⟩, hI, Fr.rf⟩
      · exact P_throw hl thr_N co_CM_corner.1 d_CM_corner_33 d_CM_corner_36 d_CM_corner_37 d_CM_corner_40 ⟨le_b rfl, le_b rfl, le_b rfl, le_b rfl⟩ (le_b rfl) hx (le_b rfl) (le_b rfl) ⟨Or.inr rfl, rfl⟩
    · exact P_throw hl thr_I co_CM_corner.1 d_CM_corner_18 d_CM_corner_21 d_CM_corner_22 d_CM_corner_25 ⟨le_b rfl, le_b rfl, le_b rfl, le_b rfl⟩ (le_b rfl) hx (le_b rfl) (le_b rfl) ⟨Or.inl rfl, rfl⟩
theorem s_CM_map {G : pG} {w : pW} (hl : (g_l G).stackTraces = false) (hx : w.1 < 1000000) (hG : GO G) (hI : I w) (a1 : Int32) (a2 : Int32) (a3 : Int32) : XM G M_CM_map 6 1 6 [.ref 0, .int a1, .int a2, .int a3] w (fun r w' => (∃ v, r = some (.int v)) ∧ I w' ∧ Fr SC w w') (fun E w' => (E = "java/lang/IndexOutOfBoundsException" ∨ E = "java/util/NoSuchElementException") ∧ w' = (w.1 + 1, w.2)) := by
  refine XM_of pn_CM_map (le_b rfl) ?_
  show PW _ _ _ _ _ _ (0, [(0, .ref 0), (1, .int a1), (2, .int a2), (3, .int a3)], [], w)
  obtain ⟨b, hb, e0⟩ := hI.cm
  obtain ⟨hb1, hb2⟩ := pl_rng hb
  obtain ⟨lc, qc, mc, pc, eb, hlc, hqc, hmc, hpc⟩ := hI.pl hb
  refine P_aload_n d_CM_map_0 rfl ?_
  refine P_getf (i := 0) d_CM_map_1 ok_CM (by decide) L_CM_12 e0 rfl ?_
  refine P_iload_n d_CM_map_4 rfl ?_
  refine P_callV (M := M_CM_map) (pc := 5) (as := [.int a1]) (b := b) d_CM_map_5 co_Plane_hasMap ok_Plane eb L_CM_151 im_Plane_hasMap se_Plane_hasMap (s_Plane_hasMap eb hlc hqc hmc hpc a1) rfl ⟨by decide, by decide⟩ ⟨by decide, by decide⟩ (by exact le_b rfl) ?_ _ rfl
  rintro _ u ⟨rfl, eu⟩
  subst u
  show PW _ _ _ _ _ _ (8, [(0, .ref 0), (1, .int a1), (2, .int a2), (3, .int a3)], [.int (bi (inN mc a1))], w)
  refine P_if_ne 19 d_CM_map_8 (by decide) (fun c2 => ?_) (fun c2 => ?_)
  · obtain ⟨a1N, ha1N, rfl⟩ := inN_of (bi_1 c2) (by omega)
    refine P_iload_n d_CM_map_19 rfl ?_
    refine P_callS (M := M_CM_map) (pc := 20) (as := [.int a2]) d_CM_map_20 co_CM_isThird L_CM_154 sm_CM_isThird (s_CM_isThird a2) rfl ⟨by decide, by decide⟩ ⟨by decide, by decide⟩ (by exact le_b rfl) ?_ _ rfl
    rintro _ u ⟨rfl, eu⟩
    subst u
    show PW _ _ _ _ _ _ (23, [(0, .ref 0), (1, .int (nI a1N)), (2, .int a2), (3, .int a3)], [.int (bi (inN 3 a2))], w)
    refine P_if_eq 33 d_CM_map_23 (by decide) (fun c4 => ?_) (fun c4 => ?_)
    · exact P_throw hl thr_N co_CM_map.1 d_CM_map_33 d_CM_map_36 d_CM_map_37 d_CM_map_40 ⟨le_b rfl, le_b rfl, le_b rfl, le_b rfl⟩ (le_b rfl) hx (le_b rfl) (le_b rfl) ⟨Or.inr rfl, rfl⟩
    · obtain ⟨a2N, ha2N, rfl⟩ := inN_of (bi_1 c4) (by omega)
      refine P_iload_n d_CM_map_26 rfl ?_
      refine P_callS (M := M_CM_map) (pc := 27) (as := [.int a3]) d_CM_map_27 co_CM_isThird L_CM_154 sm_CM_isThird (s_CM_isThird a3) rfl ⟨by decide, by decide⟩ ⟨by decide, by decide⟩ (by exact le_b rfl) ?_ _ rfl
      rintro _ u ⟨rfl, eu⟩
      subst u
      show PW _ _ _ _ _ _ (30, [(0, .ref 0), (1, .int (nI a1N)), (2, .int (nI a2N)), (3, .int a3)], [.int (bi (inN 3 a3))], w)
      refine P_if_ne 41 d_CM_map_30 (by decide) (fun c6 => ?_) (fun c6 => ?_)
      · obtain ⟨a3N, ha3N, rfl⟩ := inN_of (bi_1 c6) (by omega)
        refine P_aload_n d_CM_map_41 rfl ?_
        refine P_getf (i := 0) d_CM_map_42 ok_CM (by decide) L_CM_12 e0 rfl ?_
        refine P_getfN (i := 1) d_CM_map_45 ok_Plane (by decide) L_CM_157 eb rfl ?_
        refine P_iload_n d_CM_map_48 rfl ?_
        refine P_aald (j := a1N) (q := b + 2 + 1 + a1N) d_CM_map_49 (hI.ms hb) rfl (ix_nI (by omega)) (by omega) (rows_at (by omega)) ?_
        refine P_iconst (v := 3) d_CM_map_50 (by decide) ?_
        refine P_iload_n d_CM_map_51 rfl ?_
        refine P_imulN (a := 3) (b := a2N) d_CM_map_52 ?_
        show PW _ _ _ _ _ _ (53, [(0, .ref 0), (1, .int (nI a1N)), (2, .int (nI a2N)), (3, .int (nI a3N))], [.int (nI (3 * a2N)), .ref (b + 2 + 1 + a1N)], w)
        refine P_iload_n d_CM_map_53 rfl ?_
        refine P_iaddN (a := (3 * a2N)) (b := a3N) d_CM_map_54 ?_
        show PW _ _ _ _ _ _ (55, [(0, .ref 0), (1, .int (nI a1N)), (2, .int (nI a2N)), (3, .int (nI a3N))], [.int (nI ((3 * a2N) + a3N)), .ref (b + 2 + 1 + a1N)], w)
        obtain ⟨f7, f7e⟩ := hI.row (r := b + 2 + 1 + a1N) (by omega) (Kc_m hb (by omega))
        refine P_lald (j := (3 * a2N) + a3N) d_CM_map_55 f7e (ix_nI (by omega)) (by omega) ?_
        refine P_l2i d_CM_map_56 ?_
        refine PW.toX ?_
        exact P_iret d_CM_map_57 rfl (le_b rfl) (le_b rfl) ⟨⟨_, rfl⟩, hI, Fr.rf⟩
      · exact P_throw hl thr_N co_CM_map.1 d_CM_map_33 d_CM_map_36 d_CM_map_37 d_CM_map_40 ⟨le_b rfl, le_b rfl, le_b rfl, le_b rfl⟩ (le_b rfl) hx (le_b rfl) (le_b rfl) ⟨Or.inr rfl, rfl⟩
  · exact P_throw hl thr_I co_CM_map.1 d_CM_map_11 d_CM_map_14 d_CM_map_15 d_CM_map_18 ⟨le_b rfl, le_b rfl, le_b rfl, le_b rfl⟩ (le_b rfl) hx (le_b rfl) (le_b rfl) ⟨Or.inl rfl, rfl⟩
theorem s_CM_point {G : pG} {w : pW} (hl : (g_l G).stackTraces = false) (hx : w.1 < 1000000) (hG : GO G) (hI : I w) (a1 : Int32) (a2 : Int32) : XM G M_CM_point 6 1 6 [.ref 0, .int a1, .int a2] w (fun r w' => (∃ v, r = some (.int v)) ∧ I w' ∧ Fr SC w w') (fun E w' => (E = "java/lang/IndexOutOfBoundsException" ∨ E = "java/util/NoSuchElementException") ∧ w' = (w.1 + 1, w.2)) := by
  refine XM_of pn_CM_point (le_b rfl) ?_
  show PW _ _ _ _ _ _ (0, [(0, .ref 0), (1, .int a1), (2, .int a2)], [], w)
  obtain ⟨b, hb, e0⟩ := hI.cm
  obtain ⟨hb1, hb2⟩ := pl_rng hb
  obtain ⟨lc, qc, mc, pc, eb, hlc, hqc, hmc, hpc⟩ := hI.pl hb
  refine P_aload_n d_CM_point_0 rfl ?_
  refine P_getf (i := 0) d_CM_point_1 ok_CM (by decide) L_CM_12 e0 rfl ?_
  refine P_iload_n d_CM_point_4 rfl ?_
  refine P_callV (M := M_CM_point) (pc := 5) (as := [.int a1]) (b := b) d_CM_point_5 co_Plane_hasPoint ok_Plane eb L_CM_160 im_Plane_hasPoint se_Plane_hasPoint (s_Plane_hasPoint eb hlc hqc hmc hpc a1) rfl ⟨by decide, by decide⟩ ⟨by decide, by decide⟩ (by exact le_b rfl) ?_ _ rfl
  rintro _ u ⟨rfl, eu⟩
  subst u
  show PW _ _ _ _ _ _ (8, [(0, .ref 0), (1, .int a1), (2, .int a2)], [.int (bi (inN pc a1))], w)
  refine P_if_ne 19 d_CM_point_8 (by decide) (fun c2 => ?_) (fun c2 => ?_)
  · obtain ⟨a1N, ha1N, rfl⟩ := inN_of (bi_1 c2) (by omega)
    refine P_iload_n d_CM_point_19 rfl ?_
    refine P_callS (M := M_CM_point) (pc := 20) (as := [.int a2]) d_CM_point_20 co_CM_isThird L_CM_154 sm_CM_isThird (s_CM_isThird a2) rfl ⟨by decide, by decide⟩ ⟨by decide, by decide⟩ (by exact le_b rfl) ?_ _ rfl
    rintro _ u ⟨rfl, eu⟩
    subst u
    show PW _ _ _ _ _ _ (23, [(0, .ref 0), (1, .int (nI a1N)), (2, .int a2)], [.int (bi (inN 3 a2))], w)
    refine P_if_ne 34 d_CM_point_23 (by decide) (fun c4 => ?_) (fun c4 => ?_)
    · obtain ⟨a2N, ha2N, rfl⟩ := inN_of (bi_1 c4) (by omega)
      refine P_aload_n d_CM_point_34 rfl ?_
      refine P_getf (i := 0) d_CM_point_35 ok_CM (by decide) L_CM_12 e0 rfl ?_
      refine P_getfN (i := 2) d_CM_point_38 ok_Plane (by decide) L_CM_163 eb rfl ?_
      refine P_iload_n d_CM_point_41 rfl ?_
      refine P_aald (j := a1N) (q := b + 19 + 1 + a1N) d_CM_point_42 (hI.ps hb) rfl (ix_nI (by omega)) (by omega) (rows_at (by omega)) ?_
      refine P_iload_n d_CM_point_43 rfl ?_
      obtain ⟨f5, f5e⟩ := hI.row (r := b + 19 + 1 + a1N) (by omega) (Kc_p hb (by omega))
      refine P_lald (j := a2N) d_CM_point_44 f5e (ix_nI (by omega)) (by omega) ?_
      refine P_l2i d_CM_point_45 ?_
      refine PW.toX ?_
      exact P_iret d_CM_point_46 rfl (le_b rfl) (le_b rfl) ⟨⟨_, rfl⟩, hI, Fr.rf⟩
    · exact P_throw hl thr_N co_CM_point.1 d_CM_point_26 d_CM_point_29 d_CM_point_30 d_CM_point_33 ⟨le_b rfl, le_b rfl, le_b rfl, le_b rfl⟩ (le_b rfl) hx (le_b rfl) (le_b rfl) ⟨Or.inr rfl, rfl⟩
  · exact P_throw hl thr_I co_CM_point.1 d_CM_point_11 d_CM_point_14 d_CM_point_15 d_CM_point_18 ⟨le_b rfl, le_b rfl, le_b rfl, le_b rfl⟩ (le_b rfl) hx (le_b rfl) (le_b rfl) ⟨Or.inl rfl, rfl⟩
