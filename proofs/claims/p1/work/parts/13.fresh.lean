/-! what each call does on a new pair of objects (by program) -/
theorem z_Plane_hasQuad {G : pG} {w : pW} (hC : Has cfL w.2) (a1 : Int32) : PM G M_Plane_hasQuad 0 0 0 [.ref 1, .int a1] w (fun r w' => r = some (.int 0) ∧ w' = w) := by
  refine PM_of pn_Plane_hasQuad (le_b rfl) ?_
  show PW _ _ _ _ _ _ (0, [(0, .ref 1), (1, .int a1)], [], w)
  refine P_iload_n d_Plane_hasQuad_0 rfl ?_
  refine P_if_lt 16 d_Plane_hasQuad_1 (by decide) (fun _ => ?_) (fun c1 => ?_)
  · refine P_iconst (v := 0) d_Plane_hasQuad_16 (by decide) ?_
    exact P_zret d_Plane_hasQuad_17 rfl rfl (le_b rfl) (le_b rfl) ⟨rfl, rfl⟩
  · refine P_iload_n d_Plane_hasQuad_4 rfl ?_
    refine P_aload_n d_Plane_hasQuad_5 rfl ?_
    refine P_getf (i := 4) d_Plane_hasQuad_6 ok_Plane (by decide) L_Plane_30 (fa hC 29 rfl) rfl ?_
    refine P_icmp_ge 16 d_Plane_hasQuad_9 (by decide) (fun _ => ?_) (fun h => (i_contra c1 h).elim)
    refine P_iconst (v := 0) d_Plane_hasQuad_16 (by decide) ?_
    exact P_zret d_Plane_hasQuad_17 rfl rfl (le_b rfl) (le_b rfl) ⟨rfl, rfl⟩
theorem z_Plane_hasMap {G : pG} {w : pW} (hC : Has cfL w.2) (a1 : Int32) : PM G M_Plane_hasMap 0 0 0 [.ref 1, .int a1] w (fun r w' => r = some (.int 0) ∧ w' = w) := by
  refine PM_of pn_Plane_hasMap (le_b rfl) ?_
  show PW _ _ _ _ _ _ (0, [(0, .ref 1), (1, .int a1)], [], w)
  refine P_iload_n d_Plane_hasMap_0 rfl ?_
  refine P_if_lt 16 d_Plane_hasMap_1 (by decide) (fun _ => ?_) (fun c1 => ?_)
  · refine P_iconst (v := 0) d_Plane_hasMap_16 (by decide) ?_
    exact P_zret d_Plane_hasMap_17 rfl rfl (le_b rfl) (le_b rfl) ⟨rfl, rfl⟩
  · refine P_iload_n d_Plane_hasMap_4 rfl ?_
    refine P_aload_n d_Plane_hasMap_5 rfl ?_
    refine P_getf (i := 5) d_Plane_hasMap_6 ok_Plane (by decide) L_Plane_33 (fa hC 29 rfl) rfl ?_
    refine P_icmp_ge 16 d_Plane_hasMap_9 (by decide) (fun _ => ?_) (fun h => (i_contra c1 h).elim)
    refine P_iconst (v := 0) d_Plane_hasMap_16 (by decide) ?_
    exact P_zret d_Plane_hasMap_17 rfl rfl (le_b rfl) (le_b rfl) ⟨rfl, rfl⟩
theorem z_Plane_hasPoint {G : pG} {w : pW} (hC : Has cfL w.2) (a1 : Int32) : PM G M_Plane_hasPoint 0 0 0 [.ref 1, .int a1] w (fun r w' => r = some (.int 0) ∧ w' = w) := by
  refine PM_of pn_Plane_hasPoint (le_b rfl) ?_
  show PW _ _ _ _ _ _ (0, [(0, .ref 1), (1, .int a1)], [], w)
  refine P_iload_n d_Plane_hasPoint_0 rfl ?_
  refine P_if_lt 16 d_Plane_hasPoint_1 (by decide) (fun _ => ?_) (fun c1 => ?_)
  · refine P_iconst (v := 0) d_Plane_hasPoint_16 (by decide) ?_
    exact P_zret d_Plane_hasPoint_17 rfl rfl (le_b rfl) (le_b rfl) ⟨rfl, rfl⟩
  · refine P_iload_n d_Plane_hasPoint_4 rfl ?_
    refine P_aload_n d_Plane_hasPoint_5 rfl ?_
    refine P_getf (i := 6) d_Plane_hasPoint_6 ok_Plane (by decide) L_Plane_36 (fa hC 29 rfl) rfl ?_
    refine P_icmp_ge 16 d_Plane_hasPoint_9 (by decide) (fun _ => ?_) (fun h => (i_contra c1 h).elim)
    refine P_iconst (v := 0) d_Plane_hasPoint_16 (by decide) ?_
    exact P_zret d_Plane_hasPoint_17 rfl rfl (le_b rfl) (le_b rfl) ⟨rfl, rfl⟩
theorem z_MD_isQuad {G : pG} {w : pW} (hM : Has mfL w.2) (a1 : Int32) : PM G M_MD_isQuad 0 0 0 [.ref 467, .int a1] w (fun r w' => r = some (.int 0) ∧ w' = w) := by
  refine PM_of pn_MD_isQuad (le_b rfl) ?_
  show PW _ _ _ _ _ _ (0, [(0, .ref 467), (1, .int a1)], [], w)
  refine P_iload_n d_MD_isQuad_0 rfl ?_
  refine P_if_lt 16 d_MD_isQuad_1 (by decide) (fun _ => ?_) (fun c1 => ?_)
  · refine P_iconst (v := 0) d_MD_isQuad_16 (by decide) ?_
    exact P_zret d_MD_isQuad_17 rfl rfl (le_b rfl) (le_b rfl) ⟨rfl, rfl⟩
  · refine P_iload_n d_MD_isQuad_4 rfl ?_
    refine P_aload_n d_MD_isQuad_5 rfl ?_
    refine P_getf (i := 5) d_MD_isQuad_6 ok_Model (by decide) L_MD_204 (fa hM 18 rfl) rfl ?_
    refine P_icmp_ge 16 d_MD_isQuad_9 (by decide) (fun _ => ?_) (fun h => (i_contra c1 h).elim)
    refine P_iconst (v := 0) d_MD_isQuad_16 (by decide) ?_
    exact P_zret d_MD_isQuad_17 rfl rfl (le_b rfl) (le_b rfl) ⟨rfl, rfl⟩
theorem z_MD_isMap {G : pG} {w : pW} (hM : Has mfL w.2) (a1 : Int32) : PM G M_MD_isMap 0 0 0 [.ref 467, .int a1] w (fun r w' => r = some (.int 0) ∧ w' = w) := by
  refine PM_of pn_MD_isMap (le_b rfl) ?_
  show PW _ _ _ _ _ _ (0, [(0, .ref 467), (1, .int a1)], [], w)
  refine P_iload_n d_MD_isMap_0 rfl ?_
  refine P_if_lt 22 d_MD_isMap_1 (by decide) (fun _ => ?_) (fun c1 => ?_)
  · refine P_iconst (v := 0) d_MD_isMap_22 (by decide) ?_
    exact P_zret d_MD_isMap_23 rfl rfl (le_b rfl) (le_b rfl) ⟨rfl, rfl⟩
  · refine P_iload_n d_MD_isMap_4 rfl ?_
    refine P_i2l d_MD_isMap_5 ?_
    refine P_aload_n d_MD_isMap_6 rfl ?_
    refine P_getf (i := 7) d_MD_isMap_7 ok_Model (by decide) L_MD_21 (fa hM 18 rfl) rfl ?_
    refine P_sipush (v := 168) d_MD_isMap_10 (by decide) ?_
    refine P_lald (j := 168) d_MD_isMap_13 (fa hM 3 rfl) ⟨by decide, by decide⟩ (by decide) ?_
    refine P_lcmp d_MD_isMap_14 ?_
    refine P_if_ge 22 d_MD_isMap_15 (by decide) (fun _ => ?_) (fun h => (l_contra c1 h).elim)
    refine P_iconst (v := 0) d_MD_isMap_22 (by decide) ?_
    exact P_zret d_MD_isMap_23 rfl rfl (le_b rfl) (le_b rfl) ⟨rfl, rfl⟩
theorem z_MD_isPoint {G : pG} {w : pW} (hM : Has mfL w.2) (a1 : Int32) : PM G M_MD_isPoint 0 0 0 [.ref 467, .int a1] w (fun r w' => r = some (.int 0) ∧ w' = w) := by
  refine PM_of pn_MD_isPoint (le_b rfl) ?_
  show PW _ _ _ _ _ _ (0, [(0, .ref 467), (1, .int a1)], [], w)
  refine P_iload_n d_MD_isPoint_0 rfl ?_
  refine P_if_lt 22 d_MD_isPoint_1 (by decide) (fun _ => ?_) (fun c1 => ?_)
  · refine P_iconst (v := 0) d_MD_isPoint_22 (by decide) ?_
    exact P_zret d_MD_isPoint_23 rfl rfl (le_b rfl) (le_b rfl) ⟨rfl, rfl⟩
  · refine P_iload_n d_MD_isPoint_4 rfl ?_
    refine P_i2l d_MD_isPoint_5 ?_
    refine P_aload_n d_MD_isPoint_6 rfl ?_
    refine P_getf (i := 7) d_MD_isPoint_7 ok_Model (by decide) L_MD_21 (fa hM 18 rfl) rfl ?_
    refine P_sipush (v := 169) d_MD_isPoint_10 (by decide) ?_
    refine P_lald (j := 169) d_MD_isPoint_13 (fa hM 3 rfl) ⟨by decide, by decide⟩ (by decide) ?_
    refine P_lcmp d_MD_isPoint_14 ?_
    refine P_if_ge 22 d_MD_isPoint_15 (by decide) (fun _ => ?_) (fun h => (l_contra c1 h).elim)
    refine P_iconst (v := 0) d_MD_isPoint_22 (by decide) ?_
    exact P_zret d_MD_isPoint_23 rfl rfl (le_b rfl) (le_b rfl) ⟨rfl, rfl⟩
theorem z_CM_shape {G : pG} {w : pW} (hC : Has cfL w.2) (a1 : Int32) : PM G M_CM_shape 1 0 0 [.ref 0, .int a1] w (fun r w' => r = some (.int (-1)) ∧ w' = w) := by
  refine PM_of pn_CM_shape (le_b rfl) ?_
  show PW _ _ _ _ _ _ (0, [(0, .ref 0), (1, .int a1)], [], w)
  refine P_aload_n d_CM_shape_0 rfl ?_
  refine P_getf (i := 0) d_CM_shape_1 ok_CM (by decide) L_CM_12 (fa hC 28 rfl) rfl ?_
  refine P_iload_n d_CM_shape_4 rfl ?_
  refine P_callV (M := M_CM_shape) (pc := 5) (as := [.int a1]) (b := 1) d_CM_shape_5 co_Plane_hasQuad ok_Plane (fa hC 29 rfl) L_CM_127 im_Plane_hasQuad se_Plane_hasQuad (z_Plane_hasQuad hC a1) rfl ⟨by decide, by decide⟩ ⟨by decide, by decide⟩ (by decide) ?_ _ rfl
  rintro _ _ ⟨rfl, rfl⟩
  show PW _ _ _ _ _ _ (8, _, [.int 0], _)
  refine P_if_eq 29 d_CM_shape_8 (by decide) (fun _ => ?_) (fun h => absurd (by decide) h)
  refine P_iconst (v := (-1)) d_CM_shape_29 (by decide) ?_
  exact P_iret d_CM_shape_30 rfl (le_b rfl) (le_b rfl) ⟨rfl, rfl⟩
theorem z_MD_shape {G : pG} {w : pW} (hM : Has mfL w.2) (a1 : Int32) : PM G M_MD_shape 1 0 0 [.ref 467, .int a1] w (fun r w' => r = some (.int (-1)) ∧ w' = w) := by
  refine PM_of pn_MD_shape (le_b rfl) ?_
  show PW _ _ _ _ _ _ (0, [(0, .ref 467), (1, .int a1)], [], w)
  refine P_aload_n d_MD_shape_0 rfl ?_
  refine P_iconst (v := 0) d_MD_shape_1 (by decide) ?_
  refine P_putS (i := 0) d_MD_shape_2 ok_Model (by decide) rfl L_MD_74 (fa hM 18 rfl) (fun _ => rfl) (fun _ => rfl) rfl ?_
  refine P_aload_n d_MD_shape_5 rfl ?_
  refine P_iload_n d_MD_shape_6 rfl ?_
  refine P_callV (M := M_MD_shape) (pc := 7) (as := [.int a1]) (b := 467) d_MD_shape_7 co_MD_isQuad ok_Model (fa hM 18 rfl) L_MD_238 im_MD_isQuad se_MD_isQuad (z_MD_isQuad hM a1) rfl ⟨by decide, by decide⟩ ⟨by decide, by decide⟩ (by decide) ?_ _ rfl
  rintro _ _ ⟨rfl, rfl⟩
  show PW _ _ _ _ _ _ (10, _, [.int 0], _)
  refine P_if_ne 15 d_MD_shape_10 (by decide) (fun h => absurd (by decide) h) (fun _ => ?_)
  refine P_iconst (v := (-1)) d_MD_shape_13 (by decide) ?_
  exact P_iret d_MD_shape_14 rfl (le_b rfl) (le_b rfl) ⟨rfl, rfl⟩
theorem z_CM_dent {G : pG} {w : pW} (hC : Has cfL w.2) (a1 : Int32) : PM G M_CM_dent 1 0 0 [.ref 0, .int a1] w (fun r w' => r = some (.int (-1)) ∧ w' = w) := by
  refine PM_of pn_CM_dent (le_b rfl) ?_
  show PW _ _ _ _ _ _ (0, [(0, .ref 0), (1, .int a1)], [], w)
  refine P_aload_n d_CM_dent_0 rfl ?_
  refine P_getf (i := 0) d_CM_dent_1 ok_CM (by decide) L_CM_12 (fa hC 28 rfl) rfl ?_
  refine P_iload_n d_CM_dent_4 rfl ?_
  refine P_callV (M := M_CM_dent) (pc := 5) (as := [.int a1]) (b := 1) d_CM_dent_5 co_Plane_hasQuad ok_Plane (fa hC 29 rfl) L_CM_127 im_Plane_hasQuad se_Plane_hasQuad (z_Plane_hasQuad hC a1) rfl ⟨by decide, by decide⟩ ⟨by decide, by decide⟩ (by decide) ?_ _ rfl
  rintro _ _ ⟨rfl, rfl⟩
  show PW _ _ _ _ _ _ (8, _, [.int 0], _)
  refine P_if_ne 13 d_CM_dent_8 (by decide) (fun h => absurd (by decide) h) (fun _ => ?_)
  refine P_iconst (v := (-1)) d_CM_dent_11 (by decide) ?_
  exact P_iret d_CM_dent_12 rfl (le_b rfl) (le_b rfl) ⟨rfl, rfl⟩
theorem z_MD_dent {G : pG} {w : pW} (hM : Has mfL w.2) (a1 : Int32) : PM G M_MD_dent 1 0 0 [.ref 467, .int a1] w (fun r w' => r = some (.int (-1)) ∧ w' = w) := by
  refine PM_of pn_MD_dent (le_b rfl) ?_
  show PW _ _ _ _ _ _ (0, [(0, .ref 467), (1, .int a1)], [], w)
  refine P_aload_n d_MD_dent_0 rfl ?_
  refine P_iconst (v := 0) d_MD_dent_1 (by decide) ?_
  refine P_putS (i := 0) d_MD_dent_2 ok_Model (by decide) rfl L_MD_74 (fa hM 18 rfl) (fun _ => rfl) (fun _ => rfl) rfl ?_
  refine P_aload_n d_MD_dent_5 rfl ?_
  refine P_iload_n d_MD_dent_6 rfl ?_
  refine P_callV (M := M_MD_dent) (pc := 7) (as := [.int a1]) (b := 467) d_MD_dent_7 co_MD_isQuad ok_Model (fa hM 18 rfl) L_MD_238 im_MD_isQuad se_MD_isQuad (z_MD_isQuad hM a1) rfl ⟨by decide, by decide⟩ ⟨by decide, by decide⟩ (by decide) ?_ _ rfl
  rintro _ _ ⟨rfl, rfl⟩
  show PW _ _ _ _ _ _ (10, _, [.int 0], _)
  refine P_if_eq 21 d_MD_dent_10 (by decide) (fun _ => ?_) (fun h => absurd (by decide) h)
  refine P_iconst (v := (-1)) d_MD_dent_21 (by decide) ?_
  exact P_iret d_MD_dent_22 rfl (le_b rfl) (le_b rfl) ⟨rfl, rfl⟩
theorem z_CM_area {G : pG} {w : pW} (hC : Has cfL w.2) (a1 : Int32) : PM G M_CM_area 1 0 0 [.ref 0, .int a1] w (fun r w' => r = some (.int (-100000)) ∧ w' = w) := by
  refine PM_of pn_CM_area (le_b rfl) ?_
  show PW _ _ _ _ _ _ (0, [(0, .ref 0), (1, .int a1)], [], w)
  refine P_aload_n d_CM_area_0 rfl ?_
  refine P_getf (i := 0) d_CM_area_1 ok_CM (by decide) L_CM_12 (fa hC 28 rfl) rfl ?_
  refine P_iload_n d_CM_area_4 rfl ?_
  refine P_callV (M := M_CM_area) (pc := 5) (as := [.int a1]) (b := 1) d_CM_area_5 co_Plane_hasQuad ok_Plane (fa hC 29 rfl) L_CM_127 im_Plane_hasQuad se_Plane_hasQuad (z_Plane_hasQuad hC a1) rfl ⟨by decide, by decide⟩ ⟨by decide, by decide⟩ (by decide) ?_ _ rfl
  rintro _ _ ⟨rfl, rfl⟩
  show PW _ _ _ _ _ _ (8, _, [.int 0], _)
  refine P_if_eq 27 d_CM_area_8 (by decide) (fun _ => ?_) (fun h => absurd (by decide) h)
  refine P_ldc (v := (-100000)) d_CM_area_27 L_CM_183 ?_
  exact P_iret d_CM_area_29 rfl (le_b rfl) (le_b rfl) ⟨rfl, rfl⟩
theorem z_MD_area {G : pG} {w : pW} (hM : Has mfL w.2) (a1 : Int32) : PM G M_MD_area 1 0 0 [.ref 467, .int a1] w (fun r w' => r = some (.int (-100000)) ∧ w' = w) := by
  refine PM_of pn_MD_area (le_b rfl) ?_
  show PW _ _ _ _ _ _ (0, [(0, .ref 467), (1, .int a1)], [], w)
  refine P_aload_n d_MD_area_0 rfl ?_
  refine P_iconst (v := 0) d_MD_area_1 (by decide) ?_
  refine P_putS (i := 0) d_MD_area_2 ok_Model (by decide) rfl L_MD_74 (fa hM 18 rfl) (fun _ => rfl) (fun _ => rfl) rfl ?_
  refine P_aload_n d_MD_area_5 rfl ?_
  refine P_iload_n d_MD_area_6 rfl ?_
  refine P_callV (M := M_MD_area) (pc := 7) (as := [.int a1]) (b := 467) d_MD_area_7 co_MD_isQuad ok_Model (fa hM 18 rfl) L_MD_238 im_MD_isQuad se_MD_isQuad (z_MD_isQuad hM a1) rfl ⟨by decide, by decide⟩ ⟨by decide, by decide⟩ (by decide) ?_ _ rfl
  rintro _ _ ⟨rfl, rfl⟩
  show PW _ _ _ _ _ _ (10, _, [.int 0], _)
  refine P_if_eq 39 d_MD_area_10 (by decide) (fun _ => ?_) (fun h => absurd (by decide) h)
  refine P_ldcw (v := (-100000)) d_MD_area_39 L_MD_265 ?_
  exact P_iret d_MD_area_42 rfl (le_b rfl) (le_b rfl) ⟨rfl, rfl⟩
theorem z_CM_make {G : pG} {w : pW} (hC : Has cfL w.2) (a1 a2 : Int32) : PM G M_CM_make 1 0 0 [.ref 0, .int a1, .int a2] w (fun r w' => r = some (.int (-1)) ∧ w' = w) := by
  refine PM_of pn_CM_make (le_b rfl) ?_
  show PW _ _ _ _ _ _ (0, [(0, .ref 0), (1, .int a1), (2, .int a2)], [], w)
  refine P_aload_n d_CM_make_0 rfl ?_
  refine P_getf (i := 0) d_CM_make_1 ok_CM (by decide) L_CM_12 (fa hC 28 rfl) rfl ?_
  refine P_iload_n d_CM_make_4 rfl ?_
  refine P_callV (M := M_CM_make) (pc := 5) (as := [.int a1]) (b := 1) d_CM_make_5 co_Plane_hasQuad ok_Plane (fa hC 29 rfl) L_CM_127 im_Plane_hasQuad se_Plane_hasQuad (z_Plane_hasQuad hC a1) rfl ⟨by decide, by decide⟩ ⟨by decide, by decide⟩ (by decide) ?_ _ rfl
  rintro _ _ ⟨rfl, rfl⟩
  show PW _ _ _ _ _ _ (8, _, [.int 0], _)
  refine P_if_eq 22 d_CM_make_8 (by decide) (fun _ => ?_) (fun h => absurd (by decide) h)
  refine P_iconst (v := (-1)) d_CM_make_22 (by decide) ?_
  exact P_iret d_CM_make_23 rfl (le_b rfl) (le_b rfl) ⟨rfl, rfl⟩
theorem z_MD_make {G : pG} {w : pW} (hM : Has mfL w.2) (a1 a2 : Int32) : PM G M_MD_make 1 0 0 [.ref 467, .int a1, .int a2] w (fun r w' => r = some (.int (-1)) ∧ w' = w) := by
  refine PM_of pn_MD_make (le_b rfl) ?_
  show PW _ _ _ _ _ _ (0, [(0, .ref 467), (1, .int a1), (2, .int a2)], [], w)
  refine P_aload_n d_MD_make_0 rfl ?_
  refine P_iconst (v := 0) d_MD_make_1 (by decide) ?_
  refine P_putS (i := 0) d_MD_make_2 ok_Model (by decide) rfl L_MD_74 (fa hM 18 rfl) (fun _ => rfl) (fun _ => rfl) rfl ?_
  refine P_aload_n d_MD_make_5 rfl ?_
  refine P_iload_n d_MD_make_6 rfl ?_
  refine P_callV (M := M_MD_make) (pc := 7) (as := [.int a1]) (b := 467) d_MD_make_7 co_MD_isQuad ok_Model (fa hM 18 rfl) L_MD_238 im_MD_isQuad se_MD_isQuad (z_MD_isQuad hM a1) rfl ⟨by decide, by decide⟩ ⟨by decide, by decide⟩ (by decide) ?_ _ rfl
  rintro _ _ ⟨rfl, rfl⟩
  show PW _ _ _ _ _ _ (10, _, [.int 0], _)
  refine P_if_eq 21 d_MD_make_10 (by decide) (fun _ => ?_) (fun h => absurd (by decide) h)
  refine P_iconst (v := (-1)) d_MD_make_21 (by decide) ?_
  exact P_iret d_MD_make_22 rfl (le_b rfl) (le_b rfl) ⟨rfl, rfl⟩
theorem z_CM_square {G : pG} {w : pW} (hC : Has cfL w.2) (a1 a2 : Int32) : PM G M_CM_square 1 0 0 [.ref 0, .int a1, .int a2] w (fun r w' => r = some (.int (-1)) ∧ w' = w) := by
  refine PM_of pn_CM_square (le_b rfl) ?_
  show PW _ _ _ _ _ _ (0, [(0, .ref 0), (1, .int a1), (2, .int a2)], [], w)
  refine P_aload_n d_CM_square_0 rfl ?_
  refine P_getf (i := 0) d_CM_square_1 ok_CM (by decide) L_CM_12 (fa hC 28 rfl) rfl ?_
  refine P_iload_n d_CM_square_4 rfl ?_
  refine P_callV (M := M_CM_square) (pc := 5) (as := [.int a1]) (b := 1) d_CM_square_5 co_Plane_hasQuad ok_Plane (fa hC 29 rfl) L_CM_127 im_Plane_hasQuad se_Plane_hasQuad (z_Plane_hasQuad hC a1) rfl ⟨by decide, by decide⟩ ⟨by decide, by decide⟩ (by decide) ?_ _ rfl
  rintro _ _ ⟨rfl, rfl⟩
  show PW _ _ _ _ _ _ (8, _, [.int 0], _)
  refine P_if_eq 22 d_CM_square_8 (by decide) (fun _ => ?_) (fun h => absurd (by decide) h)
  refine P_iconst (v := (-1)) d_CM_square_22 (by decide) ?_
  exact P_iret d_CM_square_23 rfl (le_b rfl) (le_b rfl) ⟨rfl, rfl⟩
theorem z_MD_square {G : pG} {w : pW} (hM : Has mfL w.2) (a1 a2 : Int32) : PM G M_MD_square 1 0 0 [.ref 467, .int a1, .int a2] w (fun r w' => r = some (.int (-1)) ∧ w' = w) := by
  refine PM_of pn_MD_square (le_b rfl) ?_
  show PW _ _ _ _ _ _ (0, [(0, .ref 467), (1, .int a1), (2, .int a2)], [], w)
  refine P_aload_n d_MD_square_0 rfl ?_
  refine P_iconst (v := 0) d_MD_square_1 (by decide) ?_
  refine P_putS (i := 0) d_MD_square_2 ok_Model (by decide) rfl L_MD_74 (fa hM 18 rfl) (fun _ => rfl) (fun _ => rfl) rfl ?_
  refine P_aload_n d_MD_square_5 rfl ?_
  refine P_iload_n d_MD_square_6 rfl ?_
  refine P_callV (M := M_MD_square) (pc := 7) (as := [.int a1]) (b := 467) d_MD_square_7 co_MD_isQuad ok_Model (fa hM 18 rfl) L_MD_238 im_MD_isQuad se_MD_isQuad (z_MD_isQuad hM a1) rfl ⟨by decide, by decide⟩ ⟨by decide, by decide⟩ (by decide) ?_ _ rfl
  rintro _ _ ⟨rfl, rfl⟩
  show PW _ _ _ _ _ _ (10, _, [.int 0], _)
  refine P_if_eq 24 d_MD_square_10 (by decide) (fun _ => ?_) (fun h => absurd (by decide) h)
  refine P_iconst (v := (-1)) d_MD_square_24 (by decide) ?_
  exact P_iret d_MD_square_25 rfl (le_b rfl) (le_b rfl) ⟨rfl, rfl⟩
theorem z_CM_product {G : pG} {w : pW} (hC : Has cfL w.2) (a1 a2 : Int32) : PM G M_CM_product 1 0 0 [.ref 0, .int a1, .int a2] w (fun r w' => r = some (.int (-1)) ∧ w' = w) := by
  refine PM_of pn_CM_product (le_b rfl) ?_
  show PW _ _ _ _ _ _ (0, [(0, .ref 0), (1, .int a1), (2, .int a2)], [], w)
  refine P_aload_n d_CM_product_0 rfl ?_
  refine P_getf (i := 0) d_CM_product_1 ok_CM (by decide) L_CM_12 (fa hC 28 rfl) rfl ?_
  refine P_iload_n d_CM_product_4 rfl ?_
  refine P_callV (M := M_CM_product) (pc := 5) (as := [.int a1]) (b := 1) d_CM_product_5 co_Plane_hasMap ok_Plane (fa hC 29 rfl) L_CM_151 im_Plane_hasMap se_Plane_hasMap (z_Plane_hasMap hC a1) rfl ⟨by decide, by decide⟩ ⟨by decide, by decide⟩ (by decide) ?_ _ rfl
  rintro _ _ ⟨rfl, rfl⟩
  show PW _ _ _ _ _ _ (8, _, [.int 0], _)
  refine P_if_eq 22 d_CM_product_8 (by decide) (fun _ => ?_) (fun h => absurd (by decide) h)
  refine P_iconst (v := (-1)) d_CM_product_22 (by decide) ?_
  exact P_iret d_CM_product_23 rfl (le_b rfl) (le_b rfl) ⟨rfl, rfl⟩
theorem z_MD_product {G : pG} {w : pW} (hM : Has mfL w.2) (a1 a2 : Int32) : PM G M_MD_product 1 0 0 [.ref 467, .int a1, .int a2] w (fun r w' => r = some (.int (-1)) ∧ w' = w) := by
  refine PM_of pn_MD_product (le_b rfl) ?_
  show PW _ _ _ _ _ _ (0, [(0, .ref 467), (1, .int a1), (2, .int a2)], [], w)
  refine P_aload_n d_MD_product_0 rfl ?_
  refine P_iconst (v := 0) d_MD_product_1 (by decide) ?_
  refine P_putS (i := 0) d_MD_product_2 ok_Model (by decide) rfl L_MD_74 (fa hM 18 rfl) (fun _ => rfl) (fun _ => rfl) rfl ?_
  refine P_aload_n d_MD_product_5 rfl ?_
  refine P_iload_n d_MD_product_6 rfl ?_
  refine P_callV (M := M_MD_product) (pc := 7) (as := [.int a1]) (b := 467) d_MD_product_7 co_MD_isMap ok_Model (fa hM 18 rfl) L_MD_241 im_MD_isMap se_MD_isMap (z_MD_isMap hM a1) rfl ⟨by decide, by decide⟩ ⟨by decide, by decide⟩ (by decide) ?_ _ rfl
  rintro _ _ ⟨rfl, rfl⟩
  show PW _ _ _ _ _ _ (10, _, [.int 0], _)
  refine P_if_eq 21 d_MD_product_10 (by decide) (fun _ => ?_) (fun h => absurd (by decide) h)
  refine P_iconst (v := (-1)) d_MD_product_21 (by decide) ?_
  exact P_iret d_MD_product_22 rfl (le_b rfl) (le_b rfl) ⟨rfl, rfl⟩
theorem z_CM_inverse {G : pG} {w : pW} (hC : Has cfL w.2) (a1 : Int32) : PM G M_CM_inverse 1 0 0 [.ref 0, .int a1] w (fun r w' => r = some (.int (-1)) ∧ w' = w) := by
  refine PM_of pn_CM_inverse (le_b rfl) ?_
  show PW _ _ _ _ _ _ (0, [(0, .ref 0), (1, .int a1)], [], w)
  refine P_aload_n d_CM_inverse_0 rfl ?_
  refine P_getf (i := 0) d_CM_inverse_1 ok_CM (by decide) L_CM_12 (fa hC 28 rfl) rfl ?_
  refine P_iload_n d_CM_inverse_4 rfl ?_
  refine P_callV (M := M_CM_inverse) (pc := 5) (as := [.int a1]) (b := 1) d_CM_inverse_5 co_Plane_hasMap ok_Plane (fa hC 29 rfl) L_CM_151 im_Plane_hasMap se_Plane_hasMap (z_Plane_hasMap hC a1) rfl ⟨by decide, by decide⟩ ⟨by decide, by decide⟩ (by decide) ?_ _ rfl
  rintro _ _ ⟨rfl, rfl⟩
  show PW _ _ _ _ _ _ (8, _, [.int 0], _)
  refine P_if_ne 13 d_CM_inverse_8 (by decide) (fun h => absurd (by decide) h) (fun _ => ?_)
  refine P_iconst (v := (-1)) d_CM_inverse_11 (by decide) ?_
  exact P_iret d_CM_inverse_12 rfl (le_b rfl) (le_b rfl) ⟨rfl, rfl⟩
theorem z_MD_inverse {G : pG} {w : pW} (hM : Has mfL w.2) (a1 : Int32) : PM G M_MD_inverse 1 0 0 [.ref 467, .int a1] w (fun r w' => r = some (.int (-1)) ∧ w' = w) := by
  refine PM_of pn_MD_inverse (le_b rfl) ?_
  show PW _ _ _ _ _ _ (0, [(0, .ref 467), (1, .int a1)], [], w)
  refine P_aload_n d_MD_inverse_0 rfl ?_
  refine P_iconst (v := 0) d_MD_inverse_1 (by decide) ?_
  refine P_putS (i := 0) d_MD_inverse_2 ok_Model (by decide) rfl L_MD_74 (fa hM 18 rfl) (fun _ => rfl) (fun _ => rfl) rfl ?_
  refine P_aload_n d_MD_inverse_5 rfl ?_
  refine P_iload_n d_MD_inverse_6 rfl ?_
  refine P_callV (M := M_MD_inverse) (pc := 7) (as := [.int a1]) (b := 467) d_MD_inverse_7 co_MD_isMap ok_Model (fa hM 18 rfl) L_MD_241 im_MD_isMap se_MD_isMap (z_MD_isMap hM a1) rfl ⟨by decide, by decide⟩ ⟨by decide, by decide⟩ (by decide) ?_ _ rfl
  rintro _ _ ⟨rfl, rfl⟩
  show PW _ _ _ _ _ _ (10, _, [.int 0], _)
  refine P_if_ne 15 d_MD_inverse_10 (by decide) (fun h => absurd (by decide) h) (fun _ => ?_)
  refine P_iconst (v := (-1)) d_MD_inverse_13 (by decide) ?_
  exact P_iret d_MD_inverse_14 rfl (le_b rfl) (le_b rfl) ⟨rfl, rfl⟩
theorem z_CM_power {G : pG} {w : pW} (hC : Has cfL w.2) (a1 a2 : Int32) : PM G M_CM_power 1 0 0 [.ref 0, .int a1, .int a2] w (fun r w' => r = some (.int (-1)) ∧ w' = w) := by
  refine PM_of pn_CM_power (le_b rfl) ?_
  show PW _ _ _ _ _ _ (0, [(0, .ref 0), (1, .int a1), (2, .int a2)], [], w)
  refine P_aload_n d_CM_power_0 rfl ?_
  refine P_getf (i := 0) d_CM_power_1 ok_CM (by decide) L_CM_12 (fa hC 28 rfl) rfl ?_
  refine P_iload_n d_CM_power_4 rfl ?_
  refine P_callV (M := M_CM_power) (pc := 5) (as := [.int a1]) (b := 1) d_CM_power_5 co_Plane_hasMap ok_Plane (fa hC 29 rfl) L_CM_151 im_Plane_hasMap se_Plane_hasMap (z_Plane_hasMap hC a1) rfl ⟨by decide, by decide⟩ ⟨by decide, by decide⟩ (by decide) ?_ _ rfl
  rintro _ _ ⟨rfl, rfl⟩
  show PW _ _ _ _ _ _ (8, _, [.int 0], _)
  refine P_if_eq 21 d_CM_power_8 (by decide) (fun _ => ?_) (fun h => absurd (by decide) h)
  refine P_iconst (v := (-1)) d_CM_power_21 (by decide) ?_
  exact P_iret d_CM_power_22 rfl (le_b rfl) (le_b rfl) ⟨rfl, rfl⟩
theorem z_MD_power {G : pG} {w : pW} (hM : Has mfL w.2) (a1 a2 : Int32) : PM G M_MD_power 1 0 0 [.ref 467, .int a1, .int a2] w (fun r w' => r = some (.int (-1)) ∧ w' = w) := by
  refine PM_of pn_MD_power (le_b rfl) ?_
  show PW _ _ _ _ _ _ (0, [(0, .ref 467), (1, .int a1), (2, .int a2)], [], w)
  refine P_aload_n d_MD_power_0 rfl ?_
  refine P_iconst (v := 0) d_MD_power_1 (by decide) ?_
  refine P_putS (i := 0) d_MD_power_2 ok_Model (by decide) rfl L_MD_74 (fa hM 18 rfl) (fun _ => rfl) (fun _ => rfl) rfl ?_
  refine P_aload_n d_MD_power_5 rfl ?_
  refine P_iload_n d_MD_power_6 rfl ?_
  refine P_callV (M := M_MD_power) (pc := 7) (as := [.int a1]) (b := 467) d_MD_power_7 co_MD_isMap ok_Model (fa hM 18 rfl) L_MD_241 im_MD_isMap se_MD_isMap (z_MD_isMap hM a1) rfl ⟨by decide, by decide⟩ ⟨by decide, by decide⟩ (by decide) ?_ _ rfl
  rintro _ _ ⟨rfl, rfl⟩
  show PW _ _ _ _ _ _ (10, _, [.int 0], _)
  refine P_if_eq 23 d_MD_power_10 (by decide) (fun _ => ?_) (fun h => absurd (by decide) h)
  refine P_iconst (v := (-1)) d_MD_power_23 (by decide) ?_
  exact P_iret d_MD_power_24 rfl (le_b rfl) (le_b rfl) ⟨rfl, rfl⟩
theorem z_CM_drop {G : pG} {w : pW} (hC : Has cfL w.2) (a1 : Int32) : PM G M_CM_drop 1 0 0 [.ref 0, .int a1] w (fun r w' => r = some (.int (-1)) ∧ w' = w) := by
  refine PM_of pn_CM_drop (le_b rfl) ?_
  show PW _ _ _ _ _ _ (0, [(0, .ref 0), (1, .int a1)], [], w)
  refine P_aload_n d_CM_drop_0 rfl ?_
  refine P_getf (i := 0) d_CM_drop_1 ok_CM (by decide) L_CM_12 (fa hC 28 rfl) rfl ?_
  refine P_iload_n d_CM_drop_4 rfl ?_
  refine P_callV (M := M_CM_drop) (pc := 5) (as := [.int a1]) (b := 1) d_CM_drop_5 co_Plane_hasMap ok_Plane (fa hC 29 rfl) L_CM_151 im_Plane_hasMap se_Plane_hasMap (z_Plane_hasMap hC a1) rfl ⟨by decide, by decide⟩ ⟨by decide, by decide⟩ (by decide) ?_ _ rfl
  rintro _ _ ⟨rfl, rfl⟩
  show PW _ _ _ _ _ _ (8, _, [.int 0], _)
  refine P_if_ne 13 d_CM_drop_8 (by decide) (fun h => absurd (by decide) h) (fun _ => ?_)
  refine P_iconst (v := (-1)) d_CM_drop_11 (by decide) ?_
  exact P_iret d_CM_drop_12 rfl (le_b rfl) (le_b rfl) ⟨rfl, rfl⟩
theorem z_MD_drop {G : pG} {w : pW} (hM : Has mfL w.2) (a1 : Int32) : PM G M_MD_drop 1 0 0 [.ref 467, .int a1] w (fun r w' => r = some (.int (-1)) ∧ w' = w) := by
  refine PM_of pn_MD_drop (le_b rfl) ?_
  show PW _ _ _ _ _ _ (0, [(0, .ref 467), (1, .int a1)], [], w)
  refine P_aload_n d_MD_drop_0 rfl ?_
  refine P_iconst (v := 0) d_MD_drop_1 (by decide) ?_
  refine P_putS (i := 0) d_MD_drop_2 ok_Model (by decide) rfl L_MD_74 (fa hM 18 rfl) (fun _ => rfl) (fun _ => rfl) rfl ?_
  refine P_aload_n d_MD_drop_5 rfl ?_
  refine P_iload_n d_MD_drop_6 rfl ?_
  refine P_callV (M := M_MD_drop) (pc := 7) (as := [.int a1]) (b := 467) d_MD_drop_7 co_MD_isMap ok_Model (fa hM 18 rfl) L_MD_241 im_MD_isMap se_MD_isMap (z_MD_isMap hM a1) rfl ⟨by decide, by decide⟩ ⟨by decide, by decide⟩ (by decide) ?_ _ rfl
  rintro _ _ ⟨rfl, rfl⟩
  show PW _ _ _ _ _ _ (10, _, [.int 0], _)
  refine P_if_ne 15 d_MD_drop_10 (by decide) (fun h => absurd (by decide) h) (fun _ => ?_)
  refine P_iconst (v := (-1)) d_MD_drop_13 (by decide) ?_
  exact P_iret d_MD_drop_14 rfl (le_b rfl) (le_b rfl) ⟨rfl, rfl⟩
theorem z_CM_moves {G : pG} {w : pW} (hC : Has cfL w.2) (a1 : Int32) : PM G M_CM_moves 1 0 0 [.ref 0, .int a1] w (fun r w' => r = some (.int (-1)) ∧ w' = w) := by
  refine PM_of pn_CM_moves (le_b rfl) ?_
  show PW _ _ _ _ _ _ (0, [(0, .ref 0), (1, .int a1)], [], w)
  refine P_aload_n d_CM_moves_0 rfl ?_
  refine P_getf (i := 0) d_CM_moves_1 ok_CM (by decide) L_CM_12 (fa hC 28 rfl) rfl ?_
  refine P_iload_n d_CM_moves_4 rfl ?_
  refine P_callV (M := M_CM_moves) (pc := 5) (as := [.int a1]) (b := 1) d_CM_moves_5 co_Plane_hasMap ok_Plane (fa hC 29 rfl) L_CM_151 im_Plane_hasMap se_Plane_hasMap (z_Plane_hasMap hC a1) rfl ⟨by decide, by decide⟩ ⟨by decide, by decide⟩ (by decide) ?_ _ rfl
  rintro _ _ ⟨rfl, rfl⟩
  show PW _ _ _ _ _ _ (8, _, [.int 0], _)
  refine P_if_ne 13 d_CM_moves_8 (by decide) (fun h => absurd (by decide) h) (fun _ => ?_)
  refine P_iconst (v := (-1)) d_CM_moves_11 (by decide) ?_
  exact P_iret d_CM_moves_12 rfl (le_b rfl) (le_b rfl) ⟨rfl, rfl⟩
theorem z_MD_moves {G : pG} {w : pW} (hM : Has mfL w.2) (a1 : Int32) : PM G M_MD_moves 1 0 0 [.ref 467, .int a1] w (fun r w' => r = some (.int (-1)) ∧ w' = w) := by
  refine PM_of pn_MD_moves (le_b rfl) ?_
  show PW _ _ _ _ _ _ (0, [(0, .ref 467), (1, .int a1)], [], w)
  refine P_aload_n d_MD_moves_0 rfl ?_
  refine P_iconst (v := 0) d_MD_moves_1 (by decide) ?_
  refine P_putS (i := 0) d_MD_moves_2 ok_Model (by decide) rfl L_MD_74 (fa hM 18 rfl) (fun _ => rfl) (fun _ => rfl) rfl ?_
  refine P_aload_n d_MD_moves_5 rfl ?_
  refine P_iload_n d_MD_moves_6 rfl ?_
  refine P_callV (M := M_MD_moves) (pc := 7) (as := [.int a1]) (b := 467) d_MD_moves_7 co_MD_isMap ok_Model (fa hM 18 rfl) L_MD_241 im_MD_isMap se_MD_isMap (z_MD_isMap hM a1) rfl ⟨by decide, by decide⟩ ⟨by decide, by decide⟩ (by decide) ?_ _ rfl
  rintro _ _ ⟨rfl, rfl⟩
  show PW _ _ _ _ _ _ (10, _, [.int 0], _)
  refine P_if_ne 15 d_MD_moves_10 (by decide) (fun h => absurd (by decide) h) (fun _ => ?_)
  refine P_iconst (v := (-1)) d_MD_moves_13 (by decide) ?_
  exact P_iret d_MD_moves_14 rfl (le_b rfl) (le_b rfl) ⟨rfl, rfl⟩
theorem z_CM_undo {G : pG} {w : pW} (hC : Has cfL w.2) : PM G M_CM_undo 0 0 0 [.ref 0] w (fun r w' => r = some (.int (-1)) ∧ w' = w) := by
  refine PM_of pn_CM_undo (le_b rfl) ?_
  show PW _ _ _ _ _ _ (0, [(0, .ref 0)], [], w)
  refine P_aload_n d_CM_undo_0 rfl ?_
  refine P_getf (i := 4) d_CM_undo_1 ok_CM (by decide) L_CM_47 (fa hC 28 rfl) rfl ?_
  refine P_getfN (i := 4) d_CM_undo_4 ok_Past (by decide) L_CM_260 (fa hC 13 rfl) rfl ?_
  refine P_if_ne 12 d_CM_undo_7 (by decide) (fun h => absurd (by decide) h) (fun _ => ?_)
  refine P_iconst (v := (-1)) d_CM_undo_10 (by decide) ?_
  exact P_iret d_CM_undo_11 rfl (le_b rfl) (le_b rfl) ⟨rfl, rfl⟩
theorem z_MD_undo {G : pG} {w : pW} (hM : Has mfL w.2) : PM G M_MD_undo 0 0 0 [.ref 467] w (fun r w' => r = some (.int (-1)) ∧ w' = w) := by
  refine PM_of pn_MD_undo (le_b rfl) ?_
  show PW _ _ _ _ _ _ (0, [(0, .ref 467)], [], w)
  refine P_aload_n d_MD_undo_0 rfl ?_
  refine P_iconst (v := 0) d_MD_undo_1 (by decide) ?_
  refine P_putS (i := 0) d_MD_undo_2 ok_Model (by decide) rfl L_MD_74 (fa hM 18 rfl) (fun _ => rfl) (fun _ => rfl) rfl ?_
  refine P_aload_n d_MD_undo_5 rfl ?_
  refine P_getf (i := 10) d_MD_undo_6 ok_Model (by decide) L_MD_71 (fa hM 18 rfl) rfl ?_
  refine P_if_ne 14 d_MD_undo_9 (by decide) (fun h => absurd (by decide) h) (fun _ => ?_)
  refine P_iconst (v := (-1)) d_MD_undo_12 (by decide) ?_
  exact P_iret d_MD_undo_13 rfl (le_b rfl) (le_b rfl) ⟨rfl, rfl⟩
theorem z_CM_image {G : pG} {w : pW} (hC : Has cfL w.2) (a1 a2 a3 a4 a5 : Int32) : PM G M_CM_image 1 0 0 [.ref 0, .int a1, .int a2, .int a3, .int a4, .int a5] w (fun r w' => r = some (.long (-9223372036854775808)) ∧ w' = w) := by
  refine PM_of pn_CM_image (le_b rfl) ?_
  show PW _ _ _ _ _ _ (0, [(0, .ref 0), (1, .int a1), (2, .int a2), (3, .int a3), (4, .int a4), (5, .int a5)], [], w)
  refine P_aload_n d_CM_image_0 rfl ?_
  refine P_getf (i := 0) d_CM_image_1 ok_CM (by decide) L_CM_12 (fa hC 28 rfl) rfl ?_
  refine P_iload_n d_CM_image_4 rfl ?_
  refine P_callV (M := M_CM_image) (pc := 5) (as := [.int a1]) (b := 1) d_CM_image_5 co_Plane_hasMap ok_Plane (fa hC 29 rfl) L_CM_151 im_Plane_hasMap se_Plane_hasMap (z_Plane_hasMap hC a1) rfl ⟨by decide, by decide⟩ ⟨by decide, by decide⟩ (by decide) ?_ _ rfl
  rintro _ _ ⟨rfl, rfl⟩
  show PW _ _ _ _ _ _ (8, _, [.int 0], _)
  refine P_if_eq 29 d_CM_image_8 (by decide) (fun _ => ?_) (fun h => absurd (by decide) h)
  refine P_ldc2 (v := (-9223372036854775808)) d_CM_image_29 L_CM_270 ?_
  exact P_lret d_CM_image_32 rfl (le_b rfl) (le_b rfl) ⟨rfl, rfl⟩
theorem z_MD_image {G : pG} {w : pW} (hM : Has mfL w.2) (a1 a2 a3 a4 a5 : Int32) : PM G M_MD_image 1 0 0 [.ref 467, .int a1, .int a2, .int a3, .int a4, .int a5] w (fun r w' => r = some (.long (-9223372036854775808)) ∧ w' = w) := by
  refine PM_of pn_MD_image (le_b rfl) ?_
  show PW _ _ _ _ _ _ (0, [(0, .ref 467), (1, .int a1), (2, .int a2), (3, .int a3), (4, .int a4), (5, .int a5)], [], w)
  refine P_aload_n d_MD_image_0 rfl ?_
  refine P_iconst (v := 0) d_MD_image_1 (by decide) ?_
  refine P_putS (i := 0) d_MD_image_2 ok_Model (by decide) rfl L_MD_74 (fa hM 18 rfl) (fun _ => rfl) (fun _ => rfl) rfl ?_
  refine P_aload_n d_MD_image_5 rfl ?_
  refine P_iload_n d_MD_image_6 rfl ?_
  refine P_callV (M := M_MD_image) (pc := 7) (as := [.int a1]) (b := 467) d_MD_image_7 co_MD_isMap ok_Model (fa hM 18 rfl) L_MD_241 im_MD_isMap se_MD_isMap (z_MD_isMap hM a1) rfl ⟨by decide, by decide⟩ ⟨by decide, by decide⟩ (by decide) ?_ _ rfl
  rintro _ _ ⟨rfl, rfl⟩
  show PW _ _ _ _ _ _ (10, _, [.int 0], _)
  refine P_if_eq 31 d_MD_image_10 (by decide) (fun _ => ?_) (fun h => absurd (by decide) h)
  refine P_ldc2 (v := (-9223372036854775808)) d_MD_image_31 L_MD_307 ?_
  exact P_lret d_MD_image_34 rfl (le_b rfl) (le_b rfl) ⟨rfl, rfl⟩
theorem z_CM_before {G : pG} {w : pW} (hC : Has cfL w.2) (a1 a2 a3 a4 a5 : Int32) : PM G M_CM_before 1 0 0 [.ref 0, .int a1, .int a2, .int a3, .int a4, .int a5] w (fun r w' => r = some (.long (-9223372036854775808)) ∧ w' = w) := by
  refine PM_of pn_CM_before (le_b rfl) ?_
  show PW _ _ _ _ _ _ (0, [(0, .ref 0), (1, .int a1), (2, .int a2), (3, .int a3), (4, .int a4), (5, .int a5)], [], w)
  refine P_aload_n d_CM_before_0 rfl ?_
  refine P_getf (i := 0) d_CM_before_1 ok_CM (by decide) L_CM_12 (fa hC 28 rfl) rfl ?_
  refine P_iload_n d_CM_before_4 rfl ?_
  refine P_callV (M := M_CM_before) (pc := 5) (as := [.int a1]) (b := 1) d_CM_before_5 co_Plane_hasMap ok_Plane (fa hC 29 rfl) L_CM_151 im_Plane_hasMap se_Plane_hasMap (z_Plane_hasMap hC a1) rfl ⟨by decide, by decide⟩ ⟨by decide, by decide⟩ (by decide) ?_ _ rfl
  rintro _ _ ⟨rfl, rfl⟩
  show PW _ _ _ _ _ _ (8, _, [.int 0], _)
  refine P_if_eq 29 d_CM_before_8 (by decide) (fun _ => ?_) (fun h => absurd (by decide) h)
  refine P_ldc2 (v := (-9223372036854775808)) d_CM_before_29 L_CM_270 ?_
  exact P_lret d_CM_before_32 rfl (le_b rfl) (le_b rfl) ⟨rfl, rfl⟩
theorem z_MD_before {G : pG} {w : pW} (hM : Has mfL w.2) (a1 a2 a3 a4 a5 : Int32) : PM G M_MD_before 1 0 0 [.ref 467, .int a1, .int a2, .int a3, .int a4, .int a5] w (fun r w' => r = some (.long (-9223372036854775808)) ∧ w' = w) := by
  refine PM_of pn_MD_before (le_b rfl) ?_
  show PW _ _ _ _ _ _ (0, [(0, .ref 467), (1, .int a1), (2, .int a2), (3, .int a3), (4, .int a4), (5, .int a5)], [], w)
  refine P_aload_n d_MD_before_0 rfl ?_
  refine P_iconst (v := 0) d_MD_before_1 (by decide) ?_
  refine P_putS (i := 0) d_MD_before_2 ok_Model (by decide) rfl L_MD_74 (fa hM 18 rfl) (fun _ => rfl) (fun _ => rfl) rfl ?_
  refine P_aload_n d_MD_before_5 rfl ?_
  refine P_iload_n d_MD_before_6 rfl ?_
  refine P_callV (M := M_MD_before) (pc := 7) (as := [.int a1]) (b := 467) d_MD_before_7 co_MD_isMap ok_Model (fa hM 18 rfl) L_MD_241 im_MD_isMap se_MD_isMap (z_MD_isMap hM a1) rfl ⟨by decide, by decide⟩ ⟨by decide, by decide⟩ (by decide) ?_ _ rfl
  rintro _ _ ⟨rfl, rfl⟩
  show PW _ _ _ _ _ _ (10, _, [.int 0], _)
  refine P_if_eq 31 d_MD_before_10 (by decide) (fun _ => ?_) (fun h => absurd (by decide) h)
  refine P_ldc2 (v := (-9223372036854775808)) d_MD_before_31 L_MD_307 ?_
  exact P_lret d_MD_before_34 rfl (le_b rfl) (le_b rfl) ⟨rfl, rfl⟩
theorem z_CM_line {G : pG} {w : pW} (hC : Has cfL w.2) (a1 a2 a3 a4 a5 : Int32) : PM G M_CM_line 1 0 0 [.ref 0, .int a1, .int a2, .int a3, .int a4, .int a5] w (fun r w' => r = some (.long (-9223372036854775808)) ∧ w' = w) := by
  refine PM_of pn_CM_line (le_b rfl) ?_
  show PW _ _ _ _ _ _ (0, [(0, .ref 0), (1, .int a1), (2, .int a2), (3, .int a3), (4, .int a4), (5, .int a5)], [], w)
  refine P_aload_n d_CM_line_0 rfl ?_
  refine P_getf (i := 0) d_CM_line_1 ok_CM (by decide) L_CM_12 (fa hC 28 rfl) rfl ?_
  refine P_iload_n d_CM_line_4 rfl ?_
  refine P_callV (M := M_CM_line) (pc := 5) (as := [.int a1]) (b := 1) d_CM_line_5 co_Plane_hasMap ok_Plane (fa hC 29 rfl) L_CM_151 im_Plane_hasMap se_Plane_hasMap (z_Plane_hasMap hC a1) rfl ⟨by decide, by decide⟩ ⟨by decide, by decide⟩ (by decide) ?_ _ rfl
  rintro _ _ ⟨rfl, rfl⟩
  show PW _ _ _ _ _ _ (8, _, [.int 0], _)
  refine P_if_eq 29 d_CM_line_8 (by decide) (fun _ => ?_) (fun h => absurd (by decide) h)
  refine P_ldc2 (v := (-9223372036854775808)) d_CM_line_29 L_CM_270 ?_
  exact P_lret d_CM_line_32 rfl (le_b rfl) (le_b rfl) ⟨rfl, rfl⟩
theorem z_MD_line {G : pG} {w : pW} (hM : Has mfL w.2) (a1 a2 a3 a4 a5 : Int32) : PM G M_MD_line 1 0 0 [.ref 467, .int a1, .int a2, .int a3, .int a4, .int a5] w (fun r w' => r = some (.long (-9223372036854775808)) ∧ w' = w) := by
  refine PM_of pn_MD_line (le_b rfl) ?_
  show PW _ _ _ _ _ _ (0, [(0, .ref 467), (1, .int a1), (2, .int a2), (3, .int a3), (4, .int a4), (5, .int a5)], [], w)
  refine P_aload_n d_MD_line_0 rfl ?_
  refine P_iconst (v := 0) d_MD_line_1 (by decide) ?_
  refine P_putS (i := 0) d_MD_line_2 ok_Model (by decide) rfl L_MD_74 (fa hM 18 rfl) (fun _ => rfl) (fun _ => rfl) rfl ?_
  refine P_aload_n d_MD_line_5 rfl ?_
  refine P_iload_n d_MD_line_6 rfl ?_
  refine P_callV (M := M_MD_line) (pc := 7) (as := [.int a1]) (b := 467) d_MD_line_7 co_MD_isMap ok_Model (fa hM 18 rfl) L_MD_241 im_MD_isMap se_MD_isMap (z_MD_isMap hM a1) rfl ⟨by decide, by decide⟩ ⟨by decide, by decide⟩ (by decide) ?_ _ rfl
  rintro _ _ ⟨rfl, rfl⟩
  show PW _ _ _ _ _ _ (10, _, [.int 0], _)
  refine P_if_eq 31 d_MD_line_10 (by decide) (fun _ => ?_) (fun h => absurd (by decide) h)
  refine P_ldc2 (v := (-9223372036854775808)) d_MD_line_31 L_MD_307 ?_
  exact P_lret d_MD_line_34 rfl (le_b rfl) (le_b rfl) ⟨rfl, rfl⟩
theorem z_CM_horizon {G : pG} {w : pW} (hC : Has cfL w.2) (a1 a2 : Int32) : PM G M_CM_horizon 1 0 0 [.ref 0, .int a1, .int a2] w (fun r w' => r = some (.long (-9223372036854775808)) ∧ w' = w) := by
  refine PM_of pn_CM_horizon (le_b rfl) ?_
  show PW _ _ _ _ _ _ (0, [(0, .ref 0), (1, .int a1), (2, .int a2)], [], w)
  refine P_aload_n d_CM_horizon_0 rfl ?_
  refine P_getf (i := 0) d_CM_horizon_1 ok_CM (by decide) L_CM_12 (fa hC 28 rfl) rfl ?_
  refine P_iload_n d_CM_horizon_4 rfl ?_
  refine P_callV (M := M_CM_horizon) (pc := 5) (as := [.int a1]) (b := 1) d_CM_horizon_5 co_Plane_hasMap ok_Plane (fa hC 29 rfl) L_CM_151 im_Plane_hasMap se_Plane_hasMap (z_Plane_hasMap hC a1) rfl ⟨by decide, by decide⟩ ⟨by decide, by decide⟩ (by decide) ?_ _ rfl
  rintro _ _ ⟨rfl, rfl⟩
  show PW _ _ _ _ _ _ (8, _, [.int 0], _)
  refine P_if_eq 18 d_CM_horizon_8 (by decide) (fun _ => ?_) (fun h => absurd (by decide) h)
  refine P_ldc2 (v := (-9223372036854775808)) d_CM_horizon_18 L_CM_270 ?_
  exact P_lret d_CM_horizon_21 rfl (le_b rfl) (le_b rfl) ⟨rfl, rfl⟩
theorem z_MD_horizon {G : pG} {w : pW} (hM : Has mfL w.2) (a1 a2 : Int32) : PM G M_MD_horizon 1 0 0 [.ref 467, .int a1, .int a2] w (fun r w' => r = some (.long (-9223372036854775808)) ∧ w' = w) := by
  refine PM_of pn_MD_horizon (le_b rfl) ?_
  show PW _ _ _ _ _ _ (0, [(0, .ref 467), (1, .int a1), (2, .int a2)], [], w)
  refine P_aload_n d_MD_horizon_0 rfl ?_
  refine P_iconst (v := 0) d_MD_horizon_1 (by decide) ?_
  refine P_putS (i := 0) d_MD_horizon_2 ok_Model (by decide) rfl L_MD_74 (fa hM 18 rfl) (fun _ => rfl) (fun _ => rfl) rfl ?_
  refine P_aload_n d_MD_horizon_5 rfl ?_
  refine P_iload_n d_MD_horizon_6 rfl ?_
  refine P_callV (M := M_MD_horizon) (pc := 7) (as := [.int a1]) (b := 467) d_MD_horizon_7 co_MD_isMap ok_Model (fa hM 18 rfl) L_MD_241 im_MD_isMap se_MD_isMap (z_MD_isMap hM a1) rfl ⟨by decide, by decide⟩ ⟨by decide, by decide⟩ (by decide) ?_ _ rfl
  rintro _ _ ⟨rfl, rfl⟩
  show PW _ _ _ _ _ _ (10, _, [.int 0], _)
  refine P_if_eq 20 d_MD_horizon_10 (by decide) (fun _ => ?_) (fun h => absurd (by decide) h)
  refine P_ldc2 (v := (-9223372036854775808)) d_MD_horizon_20 L_MD_307 ?_
  exact P_lret d_MD_horizon_23 rfl (le_b rfl) (le_b rfl) ⟨rfl, rfl⟩
theorem z_CM_vanishing {G : pG} {w : pW} (hC : Has cfL w.2) (a1 a2 : Int32) : PM G M_CM_vanishing 1 0 0 [.ref 0, .int a1, .int a2] w (fun r w' => r = some (.long (-9223372036854775808)) ∧ w' = w) := by
  refine PM_of pn_CM_vanishing (le_b rfl) ?_
  show PW _ _ _ _ _ _ (0, [(0, .ref 0), (1, .int a1), (2, .int a2)], [], w)
  refine P_aload_n d_CM_vanishing_0 rfl ?_
  refine P_getf (i := 0) d_CM_vanishing_1 ok_CM (by decide) L_CM_12 (fa hC 28 rfl) rfl ?_
  refine P_iload_n d_CM_vanishing_4 rfl ?_
  refine P_callV (M := M_CM_vanishing) (pc := 5) (as := [.int a1]) (b := 1) d_CM_vanishing_5 co_Plane_hasMap ok_Plane (fa hC 29 rfl) L_CM_151 im_Plane_hasMap se_Plane_hasMap (z_Plane_hasMap hC a1) rfl ⟨by decide, by decide⟩ ⟨by decide, by decide⟩ (by decide) ?_ _ rfl
  rintro _ _ ⟨rfl, rfl⟩
  show PW _ _ _ _ _ _ (8, _, [.int 0], _)
  refine P_if_eq 18 d_CM_vanishing_8 (by decide) (fun _ => ?_) (fun h => absurd (by decide) h)
  refine P_ldc2 (v := (-9223372036854775808)) d_CM_vanishing_18 L_CM_270 ?_
  exact P_lret d_CM_vanishing_21 rfl (le_b rfl) (le_b rfl) ⟨rfl, rfl⟩
theorem z_MD_vanishing {G : pG} {w : pW} (hM : Has mfL w.2) (a1 a2 : Int32) : PM G M_MD_vanishing 1 0 0 [.ref 467, .int a1, .int a2] w (fun r w' => r = some (.long (-9223372036854775808)) ∧ w' = w) := by
  refine PM_of pn_MD_vanishing (le_b rfl) ?_
  show PW _ _ _ _ _ _ (0, [(0, .ref 467), (1, .int a1), (2, .int a2)], [], w)
  refine P_aload_n d_MD_vanishing_0 rfl ?_
  refine P_iconst (v := 0) d_MD_vanishing_1 (by decide) ?_
  refine P_putS (i := 0) d_MD_vanishing_2 ok_Model (by decide) rfl L_MD_74 (fa hM 18 rfl) (fun _ => rfl) (fun _ => rfl) rfl ?_
  refine P_aload_n d_MD_vanishing_5 rfl ?_
  refine P_iload_n d_MD_vanishing_6 rfl ?_
  refine P_callV (M := M_MD_vanishing) (pc := 7) (as := [.int a1]) (b := 467) d_MD_vanishing_7 co_MD_isMap ok_Model (fa hM 18 rfl) L_MD_241 im_MD_isMap se_MD_isMap (z_MD_isMap hM a1) rfl ⟨by decide, by decide⟩ ⟨by decide, by decide⟩ (by decide) ?_ _ rfl
  rintro _ _ ⟨rfl, rfl⟩
  show PW _ _ _ _ _ _ (10, _, [.int 0], _)
  refine P_if_eq 20 d_MD_vanishing_10 (by decide) (fun _ => ?_) (fun h => absurd (by decide) h)
  refine P_ldc2 (v := (-9223372036854775808)) d_MD_vanishing_20 L_MD_307 ?_
  exact P_lret d_MD_vanishing_23 rfl (le_b rfl) (le_b rfl) ⟨rfl, rfl⟩
theorem z_CM_cut {G : pG} {w : pW} (hC : Has cfL w.2) (a1 a2 a3 : Int32) : PM G M_CM_cut 1 0 0 [.ref 0, .int a1, .int a2, .int a3] w (fun r w' => r = some (.int (-1)) ∧ w' = w) := by
  refine PM_of pn_CM_cut (le_b rfl) ?_
  show PW _ _ _ _ _ _ (0, [(0, .ref 0), (1, .int a1), (2, .int a2), (3, .int a3)], [], w)
  refine P_aload_n d_CM_cut_0 rfl ?_
  refine P_getf (i := 0) d_CM_cut_1 ok_CM (by decide) L_CM_12 (fa hC 28 rfl) rfl ?_
  refine P_iload_n d_CM_cut_4 rfl ?_
  refine P_callV (M := M_CM_cut) (pc := 5) (as := [.int a1]) (b := 1) d_CM_cut_5 co_Plane_hasMap ok_Plane (fa hC 29 rfl) L_CM_151 im_Plane_hasMap se_Plane_hasMap (z_Plane_hasMap hC a1) rfl ⟨by decide, by decide⟩ ⟨by decide, by decide⟩ (by decide) ?_ _ rfl
  rintro _ _ ⟨rfl, rfl⟩
  show PW _ _ _ _ _ _ (8, _, [.int 0], _)
  refine P_if_eq 33 d_CM_cut_8 (by decide) (fun _ => ?_) (fun h => absurd (by decide) h)
  refine P_iconst (v := (-1)) d_CM_cut_33 (by decide) ?_
  exact P_iret d_CM_cut_34 rfl (le_b rfl) (le_b rfl) ⟨rfl, rfl⟩
theorem z_MD_cut {G : pG} {w : pW} (hM : Has mfL w.2) (a1 a2 a3 : Int32) : PM G M_MD_cut 1 0 0 [.ref 467, .int a1, .int a2, .int a3] w (fun r w' => r = some (.int (-1)) ∧ w' = w) := by
  refine PM_of pn_MD_cut (le_b rfl) ?_
  show PW _ _ _ _ _ _ (0, [(0, .ref 467), (1, .int a1), (2, .int a2), (3, .int a3)], [], w)
  refine P_aload_n d_MD_cut_0 rfl ?_
  refine P_iconst (v := 0) d_MD_cut_1 (by decide) ?_
  refine P_putS (i := 0) d_MD_cut_2 ok_Model (by decide) rfl L_MD_74 (fa hM 18 rfl) (fun _ => rfl) (fun _ => rfl) rfl ?_
  refine P_aload_n d_MD_cut_5 rfl ?_
  refine P_iload_n d_MD_cut_6 rfl ?_
  refine P_callV (M := M_MD_cut) (pc := 7) (as := [.int a1]) (b := 467) d_MD_cut_7 co_MD_isMap ok_Model (fa hM 18 rfl) L_MD_241 im_MD_isMap se_MD_isMap (z_MD_isMap hM a1) rfl ⟨by decide, by decide⟩ ⟨by decide, by decide⟩ (by decide) ?_ _ rfl
  rintro _ _ ⟨rfl, rfl⟩
  show PW _ _ _ _ _ _ (10, _, [.int 0], _)
  refine P_if_eq 29 d_MD_cut_10 (by decide) (fun _ => ?_) (fun h => absurd (by decide) h)
  refine P_iconst (v := (-1)) d_MD_cut_29 (by decide) ?_
  exact P_iret d_MD_cut_30 rfl (le_b rfl) (le_b rfl) ⟨rfl, rfl⟩
theorem z_CM_cutSides {G : pG} {w : pW} (hC : Has cfL w.2) (a1 a2 : Int32) : PM G M_CM_cutSides 1 0 0 [.ref 0, .int a1, .int a2] w (fun r w' => r = some (.int (-1)) ∧ w' = w) := by
  refine PM_of pn_CM_cutSides (le_b rfl) ?_
  show PW _ _ _ _ _ _ (0, [(0, .ref 0), (1, .int a1), (2, .int a2)], [], w)
  refine P_aload_n d_CM_cutSides_0 rfl ?_
  refine P_getf (i := 0) d_CM_cutSides_1 ok_CM (by decide) L_CM_12 (fa hC 28 rfl) rfl ?_
  refine P_iload_n d_CM_cutSides_4 rfl ?_
  refine P_callV (M := M_CM_cutSides) (pc := 5) (as := [.int a1]) (b := 1) d_CM_cutSides_5 co_Plane_hasMap ok_Plane (fa hC 29 rfl) L_CM_151 im_Plane_hasMap se_Plane_hasMap (z_Plane_hasMap hC a1) rfl ⟨by decide, by decide⟩ ⟨by decide, by decide⟩ (by decide) ?_ _ rfl
  rintro _ _ ⟨rfl, rfl⟩
  show PW _ _ _ _ _ _ (8, _, [.int 0], _)
  refine P_if_eq 22 d_CM_cutSides_8 (by decide) (fun _ => ?_) (fun h => absurd (by decide) h)
  refine P_iconst (v := (-1)) d_CM_cutSides_22 (by decide) ?_
  exact P_iret d_CM_cutSides_23 rfl (le_b rfl) (le_b rfl) ⟨rfl, rfl⟩
theorem z_MD_cutSides {G : pG} {w : pW} (hM : Has mfL w.2) (a1 a2 : Int32) : PM G M_MD_cutSides 1 0 0 [.ref 467, .int a1, .int a2] w (fun r w' => r = some (.int (-1)) ∧ w' = w) := by
  refine PM_of pn_MD_cutSides (le_b rfl) ?_
  show PW _ _ _ _ _ _ (0, [(0, .ref 467), (1, .int a1), (2, .int a2)], [], w)
  refine P_aload_n d_MD_cutSides_0 rfl ?_
  refine P_iconst (v := 0) d_MD_cutSides_1 (by decide) ?_
  refine P_putS (i := 0) d_MD_cutSides_2 ok_Model (by decide) rfl L_MD_74 (fa hM 18 rfl) (fun _ => rfl) (fun _ => rfl) rfl ?_
  refine P_aload_n d_MD_cutSides_5 rfl ?_
  refine P_iload_n d_MD_cutSides_6 rfl ?_
  refine P_callV (M := M_MD_cutSides) (pc := 7) (as := [.int a1]) (b := 467) d_MD_cutSides_7 co_MD_isMap ok_Model (fa hM 18 rfl) L_MD_241 im_MD_isMap se_MD_isMap (z_MD_isMap hM a1) rfl ⟨by decide, by decide⟩ ⟨by decide, by decide⟩ (by decide) ?_ _ rfl
  rintro _ _ ⟨rfl, rfl⟩
  show PW _ _ _ _ _ _ (10, _, [.int 0], _)
  refine P_if_eq 21 d_MD_cutSides_10 (by decide) (fun _ => ?_) (fun h => absurd (by decide) h)
  refine P_iconst (v := (-1)) d_MD_cutSides_21 (by decide) ?_
  exact P_iret d_MD_cutSides_22 rfl (le_b rfl) (le_b rfl) ⟨rfl, rfl⟩
theorem z_CM_kind {G : pG} {w : pW} (hC : Has cfL w.2) (a1 : Int32) : PM G M_CM_kind 1 0 0 [.ref 0, .int a1] w (fun r w' => r = some (.int (-1)) ∧ w' = w) := by
  refine PM_of pn_CM_kind (le_b rfl) ?_
  show PW _ _ _ _ _ _ (0, [(0, .ref 0), (1, .int a1)], [], w)
  refine P_aload_n d_CM_kind_0 rfl ?_
  refine P_getf (i := 0) d_CM_kind_1 ok_CM (by decide) L_CM_12 (fa hC 28 rfl) rfl ?_
  refine P_iload_n d_CM_kind_4 rfl ?_
  refine P_callV (M := M_CM_kind) (pc := 5) (as := [.int a1]) (b := 1) d_CM_kind_5 co_Plane_hasMap ok_Plane (fa hC 29 rfl) L_CM_151 im_Plane_hasMap se_Plane_hasMap (z_Plane_hasMap hC a1) rfl ⟨by decide, by decide⟩ ⟨by decide, by decide⟩ (by decide) ?_ _ rfl
  rintro _ _ ⟨rfl, rfl⟩
  show PW _ _ _ _ _ _ (8, _, [.int 0], _)
  refine P_if_eq 26 d_CM_kind_8 (by decide) (fun _ => ?_) (fun h => absurd (by decide) h)
  refine P_iconst (v := (-1)) d_CM_kind_26 (by decide) ?_
  exact P_iret d_CM_kind_27 rfl (le_b rfl) (le_b rfl) ⟨rfl, rfl⟩
theorem z_MD_kind {G : pG} {w : pW} (hM : Has mfL w.2) (a1 : Int32) : PM G M_MD_kind 1 0 0 [.ref 467, .int a1] w (fun r w' => r = some (.int (-1)) ∧ w' = w) := by
  refine PM_of pn_MD_kind (le_b rfl) ?_
  show PW _ _ _ _ _ _ (0, [(0, .ref 467), (1, .int a1)], [], w)
  refine P_aload_n d_MD_kind_0 rfl ?_
  refine P_iconst (v := 0) d_MD_kind_1 (by decide) ?_
  refine P_putS (i := 0) d_MD_kind_2 ok_Model (by decide) rfl L_MD_74 (fa hM 18 rfl) (fun _ => rfl) (fun _ => rfl) rfl ?_
  refine P_aload_n d_MD_kind_5 rfl ?_
  refine P_iload_n d_MD_kind_6 rfl ?_
  refine P_callV (M := M_MD_kind) (pc := 7) (as := [.int a1]) (b := 467) d_MD_kind_7 co_MD_isMap ok_Model (fa hM 18 rfl) L_MD_241 im_MD_isMap se_MD_isMap (z_MD_isMap hM a1) rfl ⟨by decide, by decide⟩ ⟨by decide, by decide⟩ (by decide) ?_ _ rfl
  rintro _ _ ⟨rfl, rfl⟩
  show PW _ _ _ _ _ _ (10, _, [.int 0], _)
  refine P_if_ne 15 d_MD_kind_10 (by decide) (fun h => absurd (by decide) h) (fun _ => ?_)
  refine P_iconst (v := (-1)) d_MD_kind_13 (by decide) ?_
  exact P_iret d_MD_kind_14 rfl (le_b rfl) (le_b rfl) ⟨rfl, rfl⟩
theorem z_CM_turn {G : pG} {w : pW} (hC : Has cfL w.2) (a1 : Int32) : PM G M_CM_turn 1 0 0 [.ref 0, .int a1] w (fun r w' => r = some (.int 0) ∧ w' = w) := by
  refine PM_of pn_CM_turn (le_b rfl) ?_
  show PW _ _ _ _ _ _ (0, [(0, .ref 0), (1, .int a1)], [], w)
  refine P_aload_n d_CM_turn_0 rfl ?_
  refine P_getf (i := 0) d_CM_turn_1 ok_CM (by decide) L_CM_12 (fa hC 28 rfl) rfl ?_
  refine P_iload_n d_CM_turn_4 rfl ?_
  refine P_callV (M := M_CM_turn) (pc := 5) (as := [.int a1]) (b := 1) d_CM_turn_5 co_Plane_hasMap ok_Plane (fa hC 29 rfl) L_CM_151 im_Plane_hasMap se_Plane_hasMap (z_Plane_hasMap hC a1) rfl ⟨by decide, by decide⟩ ⟨by decide, by decide⟩ (by decide) ?_ _ rfl
  rintro _ _ ⟨rfl, rfl⟩
  show PW _ _ _ _ _ _ (8, _, [.int 0], _)
  refine P_if_ne 13 d_CM_turn_8 (by decide) (fun h => absurd (by decide) h) (fun _ => ?_)
  refine P_iconst (v := 0) d_CM_turn_11 (by decide) ?_
  exact P_iret d_CM_turn_12 rfl (le_b rfl) (le_b rfl) ⟨rfl, rfl⟩
theorem z_MD_turn {G : pG} {w : pW} (hM : Has mfL w.2) (a1 : Int32) : PM G M_MD_turn 1 0 0 [.ref 467, .int a1] w (fun r w' => r = some (.int 0) ∧ w' = w) := by
  refine PM_of pn_MD_turn (le_b rfl) ?_
  show PW _ _ _ _ _ _ (0, [(0, .ref 467), (1, .int a1)], [], w)
  refine P_aload_n d_MD_turn_0 rfl ?_
  refine P_iconst (v := 0) d_MD_turn_1 (by decide) ?_
  refine P_putS (i := 0) d_MD_turn_2 ok_Model (by decide) rfl L_MD_74 (fa hM 18 rfl) (fun _ => rfl) (fun _ => rfl) rfl ?_
  refine P_aload_n d_MD_turn_5 rfl ?_
  refine P_iload_n d_MD_turn_6 rfl ?_
  refine P_callV (M := M_MD_turn) (pc := 7) (as := [.int a1]) (b := 467) d_MD_turn_7 co_MD_isMap ok_Model (fa hM 18 rfl) L_MD_241 im_MD_isMap se_MD_isMap (z_MD_isMap hM a1) rfl ⟨by decide, by decide⟩ ⟨by decide, by decide⟩ (by decide) ?_ _ rfl
  rintro _ _ ⟨rfl, rfl⟩
  show PW _ _ _ _ _ _ (10, _, [.int 0], _)
  refine P_if_ne 15 d_MD_turn_10 (by decide) (fun h => absurd (by decide) h) (fun _ => ?_)
  refine P_iconst (v := 0) d_MD_turn_13 (by decide) ?_
  exact P_iret d_MD_turn_14 rfl (le_b rfl) (le_b rfl) ⟨rfl, rfl⟩
theorem z_CM_order {G : pG} {w : pW} (hC : Has cfL w.2) (a1 : Int32) : PM G M_CM_order 1 0 0 [.ref 0, .int a1] w (fun r w' => r = some (.int (-1)) ∧ w' = w) := by
  refine PM_of pn_CM_order (le_b rfl) ?_
  show PW _ _ _ _ _ _ (0, [(0, .ref 0), (1, .int a1)], [], w)
  refine P_aload_n d_CM_order_0 rfl ?_
  refine P_getf (i := 0) d_CM_order_1 ok_CM (by decide) L_CM_12 (fa hC 28 rfl) rfl ?_
  refine P_iload_n d_CM_order_4 rfl ?_
  refine P_callV (M := M_CM_order) (pc := 5) (as := [.int a1]) (b := 1) d_CM_order_5 co_Plane_hasMap ok_Plane (fa hC 29 rfl) L_CM_151 im_Plane_hasMap se_Plane_hasMap (z_Plane_hasMap hC a1) rfl ⟨by decide, by decide⟩ ⟨by decide, by decide⟩ (by decide) ?_ _ rfl
  rintro _ _ ⟨rfl, rfl⟩
  show PW _ _ _ _ _ _ (8, _, [.int 0], _)
  refine P_if_ne 13 d_CM_order_8 (by decide) (fun h => absurd (by decide) h) (fun _ => ?_)
  refine P_iconst (v := (-1)) d_CM_order_11 (by decide) ?_
  exact P_iret d_CM_order_12 rfl (le_b rfl) (le_b rfl) ⟨rfl, rfl⟩
theorem z_MD_order {G : pG} {w : pW} (hM : Has mfL w.2) (a1 : Int32) : PM G M_MD_order 1 0 0 [.ref 467, .int a1] w (fun r w' => r = some (.int (-1)) ∧ w' = w) := by
  refine PM_of pn_MD_order (le_b rfl) ?_
  show PW _ _ _ _ _ _ (0, [(0, .ref 467), (1, .int a1)], [], w)
  refine P_aload_n d_MD_order_0 rfl ?_
  refine P_iconst (v := 0) d_MD_order_1 (by decide) ?_
  refine P_putS (i := 0) d_MD_order_2 ok_Model (by decide) rfl L_MD_74 (fa hM 18 rfl) (fun _ => rfl) (fun _ => rfl) rfl ?_
  refine P_aload_n d_MD_order_5 rfl ?_
  refine P_iload_n d_MD_order_6 rfl ?_
  refine P_callV (M := M_MD_order) (pc := 7) (as := [.int a1]) (b := 467) d_MD_order_7 co_MD_isMap ok_Model (fa hM 18 rfl) L_MD_241 im_MD_isMap se_MD_isMap (z_MD_isMap hM a1) rfl ⟨by decide, by decide⟩ ⟨by decide, by decide⟩ (by decide) ?_ _ rfl
  rintro _ _ ⟨rfl, rfl⟩
  show PW _ _ _ _ _ _ (10, _, [.int 0], _)
  refine P_if_ne 15 d_MD_order_10 (by decide) (fun h => absurd (by decide) h) (fun _ => ?_)
  refine P_iconst (v := (-1)) d_MD_order_13 (by decide) ?_
  exact P_iret d_MD_order_14 rfl (le_b rfl) (le_b rfl) ⟨rfl, rfl⟩
theorem z_CM_same {G : pG} {w : pW} (hC : Has cfL w.2) (a1 a2 : Int32) : PM G M_CM_same 1 0 0 [.ref 0, .int a1, .int a2] w (fun r w' => r = some (.int (-1)) ∧ w' = w) := by
  refine PM_of pn_CM_same (le_b rfl) ?_
  show PW _ _ _ _ _ _ (0, [(0, .ref 0), (1, .int a1), (2, .int a2)], [], w)
  refine P_aload_n d_CM_same_0 rfl ?_
  refine P_getf (i := 0) d_CM_same_1 ok_CM (by decide) L_CM_12 (fa hC 28 rfl) rfl ?_
  refine P_iload_n d_CM_same_4 rfl ?_
  refine P_callV (M := M_CM_same) (pc := 5) (as := [.int a1]) (b := 1) d_CM_same_5 co_Plane_hasMap ok_Plane (fa hC 29 rfl) L_CM_151 im_Plane_hasMap se_Plane_hasMap (z_Plane_hasMap hC a1) rfl ⟨by decide, by decide⟩ ⟨by decide, by decide⟩ (by decide) ?_ _ rfl
  rintro _ _ ⟨rfl, rfl⟩
  show PW _ _ _ _ _ _ (8, _, [.int 0], _)
  refine P_if_eq 22 d_CM_same_8 (by decide) (fun _ => ?_) (fun h => absurd (by decide) h)
  refine P_iconst (v := (-1)) d_CM_same_22 (by decide) ?_
  exact P_iret d_CM_same_23 rfl (le_b rfl) (le_b rfl) ⟨rfl, rfl⟩
theorem z_MD_same {G : pG} {w : pW} (hM : Has mfL w.2) (a1 a2 : Int32) : PM G M_MD_same 1 0 0 [.ref 467, .int a1, .int a2] w (fun r w' => r = some (.int (-1)) ∧ w' = w) := by
  refine PM_of pn_MD_same (le_b rfl) ?_
  show PW _ _ _ _ _ _ (0, [(0, .ref 467), (1, .int a1), (2, .int a2)], [], w)
  refine P_aload_n d_MD_same_0 rfl ?_
  refine P_iconst (v := 0) d_MD_same_1 (by decide) ?_
  refine P_putS (i := 0) d_MD_same_2 ok_Model (by decide) rfl L_MD_74 (fa hM 18 rfl) (fun _ => rfl) (fun _ => rfl) rfl ?_
  refine P_aload_n d_MD_same_5 rfl ?_
  refine P_iload_n d_MD_same_6 rfl ?_
  refine P_callV (M := M_MD_same) (pc := 7) (as := [.int a1]) (b := 467) d_MD_same_7 co_MD_isMap ok_Model (fa hM 18 rfl) L_MD_241 im_MD_isMap se_MD_isMap (z_MD_isMap hM a1) rfl ⟨by decide, by decide⟩ ⟨by decide, by decide⟩ (by decide) ?_ _ rfl
  rintro _ _ ⟨rfl, rfl⟩
  show PW _ _ _ _ _ _ (10, _, [.int 0], _)
  refine P_if_eq 21 d_MD_same_10 (by decide) (fun _ => ?_) (fun h => absurd (by decide) h)
  refine P_iconst (v := (-1)) d_MD_same_21 (by decide) ?_
  exact P_iret d_MD_same_22 rfl (le_b rfl) (le_b rfl) ⟨rfl, rfl⟩
theorem z_CM_commute {G : pG} {w : pW} (hC : Has cfL w.2) (a1 a2 : Int32) : PM G M_CM_commute 1 0 0 [.ref 0, .int a1, .int a2] w (fun r w' => r = some (.int (-1)) ∧ w' = w) := by
  refine PM_of pn_CM_commute (le_b rfl) ?_
  show PW _ _ _ _ _ _ (0, [(0, .ref 0), (1, .int a1), (2, .int a2)], [], w)
  refine P_aload_n d_CM_commute_0 rfl ?_
  refine P_getf (i := 0) d_CM_commute_1 ok_CM (by decide) L_CM_12 (fa hC 28 rfl) rfl ?_
  refine P_iload_n d_CM_commute_4 rfl ?_
  refine P_callV (M := M_CM_commute) (pc := 5) (as := [.int a1]) (b := 1) d_CM_commute_5 co_Plane_hasMap ok_Plane (fa hC 29 rfl) L_CM_151 im_Plane_hasMap se_Plane_hasMap (z_Plane_hasMap hC a1) rfl ⟨by decide, by decide⟩ ⟨by decide, by decide⟩ (by decide) ?_ _ rfl
  rintro _ _ ⟨rfl, rfl⟩
  show PW _ _ _ _ _ _ (8, _, [.int 0], _)
  refine P_if_eq 22 d_CM_commute_8 (by decide) (fun _ => ?_) (fun h => absurd (by decide) h)
  refine P_iconst (v := (-1)) d_CM_commute_22 (by decide) ?_
  exact P_iret d_CM_commute_23 rfl (le_b rfl) (le_b rfl) ⟨rfl, rfl⟩
theorem z_MD_commute {G : pG} {w : pW} (hM : Has mfL w.2) (a1 a2 : Int32) : PM G M_MD_commute 1 0 0 [.ref 467, .int a1, .int a2] w (fun r w' => r = some (.int (-1)) ∧ w' = w) := by
  refine PM_of pn_MD_commute (le_b rfl) ?_
  show PW _ _ _ _ _ _ (0, [(0, .ref 467), (1, .int a1), (2, .int a2)], [], w)
  refine P_aload_n d_MD_commute_0 rfl ?_
  refine P_iconst (v := 0) d_MD_commute_1 (by decide) ?_
  refine P_putS (i := 0) d_MD_commute_2 ok_Model (by decide) rfl L_MD_74 (fa hM 18 rfl) (fun _ => rfl) (fun _ => rfl) rfl ?_
  refine P_aload_n d_MD_commute_5 rfl ?_
  refine P_iload_n d_MD_commute_6 rfl ?_
  refine P_callV (M := M_MD_commute) (pc := 7) (as := [.int a1]) (b := 467) d_MD_commute_7 co_MD_isMap ok_Model (fa hM 18 rfl) L_MD_241 im_MD_isMap se_MD_isMap (z_MD_isMap hM a1) rfl ⟨by decide, by decide⟩ ⟨by decide, by decide⟩ (by decide) ?_ _ rfl
  rintro _ _ ⟨rfl, rfl⟩
  show PW _ _ _ _ _ _ (10, _, [.int 0], _)
  refine P_if_eq 21 d_MD_commute_10 (by decide) (fun _ => ?_) (fun h => absurd (by decide) h)
  refine P_iconst (v := (-1)) d_MD_commute_21 (by decide) ?_
  exact P_iret d_MD_commute_22 rfl (le_b rfl) (le_b rfl) ⟨rfl, rfl⟩
theorem z_CM_undoes {G : pG} {w : pW} (hC : Has cfL w.2) (a1 a2 : Int32) : PM G M_CM_undoes 1 0 0 [.ref 0, .int a1, .int a2] w (fun r w' => r = some (.int (-1)) ∧ w' = w) := by
  refine PM_of pn_CM_undoes (le_b rfl) ?_
  show PW _ _ _ _ _ _ (0, [(0, .ref 0), (1, .int a1), (2, .int a2)], [], w)
  refine P_aload_n d_CM_undoes_0 rfl ?_
  refine P_getf (i := 0) d_CM_undoes_1 ok_CM (by decide) L_CM_12 (fa hC 28 rfl) rfl ?_
  refine P_iload_n d_CM_undoes_4 rfl ?_
  refine P_callV (M := M_CM_undoes) (pc := 5) (as := [.int a1]) (b := 1) d_CM_undoes_5 co_Plane_hasMap ok_Plane (fa hC 29 rfl) L_CM_151 im_Plane_hasMap se_Plane_hasMap (z_Plane_hasMap hC a1) rfl ⟨by decide, by decide⟩ ⟨by decide, by decide⟩ (by decide) ?_ _ rfl
  rintro _ _ ⟨rfl, rfl⟩
  show PW _ _ _ _ _ _ (8, _, [.int 0], _)
  refine P_if_eq 22 d_CM_undoes_8 (by decide) (fun _ => ?_) (fun h => absurd (by decide) h)
  refine P_iconst (v := (-1)) d_CM_undoes_22 (by decide) ?_
  exact P_iret d_CM_undoes_23 rfl (le_b rfl) (le_b rfl) ⟨rfl, rfl⟩
theorem z_MD_undoes {G : pG} {w : pW} (hM : Has mfL w.2) (a1 a2 : Int32) : PM G M_MD_undoes 1 0 0 [.ref 467, .int a1, .int a2] w (fun r w' => r = some (.int (-1)) ∧ w' = w) := by
  refine PM_of pn_MD_undoes (le_b rfl) ?_
  show PW _ _ _ _ _ _ (0, [(0, .ref 467), (1, .int a1), (2, .int a2)], [], w)
  refine P_aload_n d_MD_undoes_0 rfl ?_
  refine P_iconst (v := 0) d_MD_undoes_1 (by decide) ?_
  refine P_putS (i := 0) d_MD_undoes_2 ok_Model (by decide) rfl L_MD_74 (fa hM 18 rfl) (fun _ => rfl) (fun _ => rfl) rfl ?_
  refine P_aload_n d_MD_undoes_5 rfl ?_
  refine P_iload_n d_MD_undoes_6 rfl ?_
  refine P_callV (M := M_MD_undoes) (pc := 7) (as := [.int a1]) (b := 467) d_MD_undoes_7 co_MD_isMap ok_Model (fa hM 18 rfl) L_MD_241 im_MD_isMap se_MD_isMap (z_MD_isMap hM a1) rfl ⟨by decide, by decide⟩ ⟨by decide, by decide⟩ (by decide) ?_ _ rfl
  rintro _ _ ⟨rfl, rfl⟩
  show PW _ _ _ _ _ _ (10, _, [.int 0], _)
  refine P_if_eq 21 d_MD_undoes_10 (by decide) (fun _ => ?_) (fun h => absurd (by decide) h)
  refine P_iconst (v := (-1)) d_MD_undoes_21 (by decide) ?_
  exact P_iret d_MD_undoes_22 rfl (le_b rfl) (le_b rfl) ⟨rfl, rfl⟩
theorem z_CM_stays {G : pG} {w : pW} (hC : Has cfL w.2) (a1 a2 : Int32) : PM G M_CM_stays 1 0 0 [.ref 0, .int a1, .int a2] w (fun r w' => r = some (.int (-1)) ∧ w' = w) := by
  refine PM_of pn_CM_stays (le_b rfl) ?_
  show PW _ _ _ _ _ _ (0, [(0, .ref 0), (1, .int a1), (2, .int a2)], [], w)
  refine P_aload_n d_CM_stays_0 rfl ?_
  refine P_getf (i := 0) d_CM_stays_1 ok_CM (by decide) L_CM_12 (fa hC 28 rfl) rfl ?_
  refine P_iload_n d_CM_stays_4 rfl ?_
  refine P_callV (M := M_CM_stays) (pc := 5) (as := [.int a1]) (b := 1) d_CM_stays_5 co_Plane_hasMap ok_Plane (fa hC 29 rfl) L_CM_151 im_Plane_hasMap se_Plane_hasMap (z_Plane_hasMap hC a1) rfl ⟨by decide, by decide⟩ ⟨by decide, by decide⟩ (by decide) ?_ _ rfl
  rintro _ _ ⟨rfl, rfl⟩
  show PW _ _ _ _ _ _ (8, _, [.int 0], _)
  refine P_if_eq 22 d_CM_stays_8 (by decide) (fun _ => ?_) (fun h => absurd (by decide) h)
  refine P_iconst (v := (-1)) d_CM_stays_22 (by decide) ?_
  exact P_iret d_CM_stays_23 rfl (le_b rfl) (le_b rfl) ⟨rfl, rfl⟩
theorem z_MD_stays {G : pG} {w : pW} (hM : Has mfL w.2) (a1 a2 : Int32) : PM G M_MD_stays 1 0 0 [.ref 467, .int a1, .int a2] w (fun r w' => r = some (.int (-1)) ∧ w' = w) := by
  refine PM_of pn_MD_stays (le_b rfl) ?_
  show PW _ _ _ _ _ _ (0, [(0, .ref 467), (1, .int a1), (2, .int a2)], [], w)
  refine P_aload_n d_MD_stays_0 rfl ?_
  refine P_iconst (v := 0) d_MD_stays_1 (by decide) ?_
  refine P_putS (i := 0) d_MD_stays_2 ok_Model (by decide) rfl L_MD_74 (fa hM 18 rfl) (fun _ => rfl) (fun _ => rfl) rfl ?_
  refine P_aload_n d_MD_stays_5 rfl ?_
  refine P_iload_n d_MD_stays_6 rfl ?_
  refine P_callV (M := M_MD_stays) (pc := 7) (as := [.int a1]) (b := 467) d_MD_stays_7 co_MD_isMap ok_Model (fa hM 18 rfl) L_MD_241 im_MD_isMap se_MD_isMap (z_MD_isMap hM a1) rfl ⟨by decide, by decide⟩ ⟨by decide, by decide⟩ (by decide) ?_ _ rfl
  rintro _ _ ⟨rfl, rfl⟩
  show PW _ _ _ _ _ _ (10, _, [.int 0], _)
  refine P_if_eq 21 d_MD_stays_10 (by decide) (fun _ => ?_) (fun h => absurd (by decide) h)
  refine P_iconst (v := (-1)) d_MD_stays_21 (by decide) ?_
  exact P_iret d_MD_stays_22 rfl (le_b rfl) (le_b rfl) ⟨rfl, rfl⟩
theorem z_CM_points {G : pG} {w : pW} (hC : Has cfL w.2) (a1 a2 : Int32) : PM G M_CM_points 1 0 0 [.ref 0, .int a1, .int a2] w (fun r w' => r = some (.int (-1)) ∧ w' = w) := by
  refine PM_of pn_CM_points (le_b rfl) ?_
  show PW _ _ _ _ _ _ (0, [(0, .ref 0), (1, .int a1), (2, .int a2)], [], w)
  refine P_aload_n d_CM_points_0 rfl ?_
  refine P_getf (i := 0) d_CM_points_1 ok_CM (by decide) L_CM_12 (fa hC 28 rfl) rfl ?_
  refine P_iload_n d_CM_points_4 rfl ?_
  refine P_callV (M := M_CM_points) (pc := 5) (as := [.int a1]) (b := 1) d_CM_points_5 co_Plane_hasMap ok_Plane (fa hC 29 rfl) L_CM_151 im_Plane_hasMap se_Plane_hasMap (z_Plane_hasMap hC a1) rfl ⟨by decide, by decide⟩ ⟨by decide, by decide⟩ (by decide) ?_ _ rfl
  rintro _ _ ⟨rfl, rfl⟩
  show PW _ _ _ _ _ _ (8, _, [.int 0], _)
  refine P_if_eq 18 d_CM_points_8 (by decide) (fun _ => ?_) (fun h => absurd (by decide) h)
  refine P_iconst (v := (-1)) d_CM_points_18 (by decide) ?_
  exact P_iret d_CM_points_19 rfl (le_b rfl) (le_b rfl) ⟨rfl, rfl⟩
theorem z_MD_points {G : pG} {w : pW} (hM : Has mfL w.2) (a1 a2 : Int32) : PM G M_MD_points 1 0 0 [.ref 467, .int a1, .int a2] w (fun r w' => r = some (.int (-1)) ∧ w' = w) := by
  refine PM_of pn_MD_points (le_b rfl) ?_
  show PW _ _ _ _ _ _ (0, [(0, .ref 467), (1, .int a1), (2, .int a2)], [], w)
  refine P_aload_n d_MD_points_0 rfl ?_
  refine P_iconst (v := 0) d_MD_points_1 (by decide) ?_
  refine P_putS (i := 0) d_MD_points_2 ok_Model (by decide) rfl L_MD_74 (fa hM 18 rfl) (fun _ => rfl) (fun _ => rfl) rfl ?_
  refine P_aload_n d_MD_points_5 rfl ?_
  refine P_iload_n d_MD_points_6 rfl ?_
  refine P_callV (M := M_MD_points) (pc := 7) (as := [.int a1]) (b := 467) d_MD_points_7 co_MD_isMap ok_Model (fa hM 18 rfl) L_MD_241 im_MD_isMap se_MD_isMap (z_MD_isMap hM a1) rfl ⟨by decide, by decide⟩ ⟨by decide, by decide⟩ (by decide) ?_ _ rfl
  rintro _ _ ⟨rfl, rfl⟩
  show PW _ _ _ _ _ _ (10, _, [.int 0], _)
  refine P_if_eq 20 d_MD_points_10 (by decide) (fun _ => ?_) (fun h => absurd (by decide) h)
  refine P_iconst (v := (-1)) d_MD_points_20 (by decide) ?_
  exact P_iret d_MD_points_21 rfl (le_b rfl) (le_b rfl) ⟨rfl, rfl⟩
theorem z_CM_join {G : pG} {w : pW} (hC : Has cfL w.2) (a1 a2 a3 : Int32) : PM G M_CM_join 1 0 0 [.ref 0, .int a1, .int a2, .int a3] w (fun r w' => r = some (.long (-9223372036854775808)) ∧ w' = w) := by
  refine PM_of pn_CM_join (le_b rfl) ?_
  show PW _ _ _ _ _ _ (0, [(0, .ref 0), (1, .int a1), (2, .int a2), (3, .int a3)], [], w)
  refine P_aload_n d_CM_join_0 rfl ?_
  refine P_getf (i := 0) d_CM_join_1 ok_CM (by decide) L_CM_12 (fa hC 28 rfl) rfl ?_
  refine P_iload_n d_CM_join_4 rfl ?_
  refine P_callV (M := M_CM_join) (pc := 5) (as := [.int a1]) (b := 1) d_CM_join_5 co_Plane_hasPoint ok_Plane (fa hC 29 rfl) L_CM_160 im_Plane_hasPoint se_Plane_hasPoint (z_Plane_hasPoint hC a1) rfl ⟨by decide, by decide⟩ ⟨by decide, by decide⟩ (by decide) ?_ _ rfl
  rintro _ _ ⟨rfl, rfl⟩
  show PW _ _ _ _ _ _ (8, _, [.int 0], _)
  refine P_if_eq 29 d_CM_join_8 (by decide) (fun _ => ?_) (fun h => absurd (by decide) h)
  refine P_ldc2 (v := (-9223372036854775808)) d_CM_join_29 L_CM_270 ?_
  exact P_lret d_CM_join_32 rfl (le_b rfl) (le_b rfl) ⟨rfl, rfl⟩
theorem z_MD_join {G : pG} {w : pW} (hM : Has mfL w.2) (a1 a2 a3 : Int32) : PM G M_MD_join 1 0 0 [.ref 467, .int a1, .int a2, .int a3] w (fun r w' => r = some (.long (-9223372036854775808)) ∧ w' = w) := by
  refine PM_of pn_MD_join (le_b rfl) ?_
  show PW _ _ _ _ _ _ (0, [(0, .ref 467), (1, .int a1), (2, .int a2), (3, .int a3)], [], w)
  refine P_aload_n d_MD_join_0 rfl ?_
  refine P_iconst (v := 0) d_MD_join_1 (by decide) ?_
  refine P_putS (i := 0) d_MD_join_2 ok_Model (by decide) rfl L_MD_74 (fa hM 18 rfl) (fun _ => rfl) (fun _ => rfl) rfl ?_
  refine P_aload_n d_MD_join_5 rfl ?_
  refine P_iload_n d_MD_join_6 rfl ?_
  refine P_callV (M := M_MD_join) (pc := 7) (as := [.int a1]) (b := 467) d_MD_join_7 co_MD_isPoint ok_Model (fa hM 18 rfl) L_MD_247 im_MD_isPoint se_MD_isPoint (z_MD_isPoint hM a1) rfl ⟨by decide, by decide⟩ ⟨by decide, by decide⟩ (by decide) ?_ _ rfl
  rintro _ _ ⟨rfl, rfl⟩
  show PW _ _ _ _ _ _ (10, _, [.int 0], _)
  refine P_if_eq 28 d_MD_join_10 (by decide) (fun _ => ?_) (fun h => absurd (by decide) h)
  refine P_ldc2 (v := (-9223372036854775808)) d_MD_join_28 L_MD_307 ?_
  exact P_lret d_MD_join_31 rfl (le_b rfl) (le_b rfl) ⟨rfl, rfl⟩
theorem z_CM_inLine {G : pG} {w : pW} (hC : Has cfL w.2) (a1 a2 a3 : Int32) : PM G M_CM_inLine 1 0 0 [.ref 0, .int a1, .int a2, .int a3] w (fun r w' => r = some (.int (-1)) ∧ w' = w) := by
  refine PM_of pn_CM_inLine (le_b rfl) ?_
  show PW _ _ _ _ _ _ (0, [(0, .ref 0), (1, .int a1), (2, .int a2), (3, .int a3)], [], w)
  refine P_aload_n d_CM_inLine_0 rfl ?_
  refine P_getf (i := 0) d_CM_inLine_1 ok_CM (by decide) L_CM_12 (fa hC 28 rfl) rfl ?_
  refine P_iload_n d_CM_inLine_4 rfl ?_
  refine P_callV (M := M_CM_inLine) (pc := 5) (as := [.int a1]) (b := 1) d_CM_inLine_5 co_Plane_hasPoint ok_Plane (fa hC 29 rfl) L_CM_160 im_Plane_hasPoint se_Plane_hasPoint (z_Plane_hasPoint hC a1) rfl ⟨by decide, by decide⟩ ⟨by decide, by decide⟩ (by decide) ?_ _ rfl
  rintro _ _ ⟨rfl, rfl⟩
  show PW _ _ _ _ _ _ (8, _, [.int 0], _)
  refine P_if_eq 33 d_CM_inLine_8 (by decide) (fun _ => ?_) (fun h => absurd (by decide) h)
  refine P_iconst (v := (-1)) d_CM_inLine_33 (by decide) ?_
  exact P_iret d_CM_inLine_34 rfl (le_b rfl) (le_b rfl) ⟨rfl, rfl⟩
theorem z_MD_inLine {G : pG} {w : pW} (hM : Has mfL w.2) (a1 a2 a3 : Int32) : PM G M_MD_inLine 1 0 0 [.ref 467, .int a1, .int a2, .int a3] w (fun r w' => r = some (.int (-1)) ∧ w' = w) := by
  refine PM_of pn_MD_inLine (le_b rfl) ?_
  show PW _ _ _ _ _ _ (0, [(0, .ref 467), (1, .int a1), (2, .int a2), (3, .int a3)], [], w)
  refine P_aload_n d_MD_inLine_0 rfl ?_
  refine P_iconst (v := 0) d_MD_inLine_1 (by decide) ?_
  refine P_putS (i := 0) d_MD_inLine_2 ok_Model (by decide) rfl L_MD_74 (fa hM 18 rfl) (fun _ => rfl) (fun _ => rfl) rfl ?_
  refine P_aload_n d_MD_inLine_5 rfl ?_
  refine P_iload_n d_MD_inLine_6 rfl ?_
  refine P_callV (M := M_MD_inLine) (pc := 7) (as := [.int a1]) (b := 467) d_MD_inLine_7 co_MD_isPoint ok_Model (fa hM 18 rfl) L_MD_247 im_MD_isPoint se_MD_isPoint (z_MD_isPoint hM a1) rfl ⟨by decide, by decide⟩ ⟨by decide, by decide⟩ (by decide) ?_ _ rfl
  rintro _ _ ⟨rfl, rfl⟩
  show PW _ _ _ _ _ _ (10, _, [.int 0], _)
  refine P_if_eq 29 d_MD_inLine_10 (by decide) (fun _ => ?_) (fun h => absurd (by decide) h)
  refine P_iconst (v := (-1)) d_MD_inLine_29 (by decide) ?_
  exact P_iret d_MD_inLine_30 rfl (le_b rfl) (le_b rfl) ⟨rfl, rfl⟩
theorem z_CM_arePoints {G : pG} {w : pW} (hC : Has cfL w.2) (a1 a2 a3 a4 : Int32) : PM G M_CM_arePoints 1 0 0 [.ref 0, .int a1, .int a2, .int a3, .int a4] w (fun r w' => r = some (.int 0) ∧ w' = w) := by
  refine PM_of pn_CM_arePoints (le_b rfl) ?_
  show PW _ _ _ _ _ _ (0, [(0, .ref 0), (1, .int a1), (2, .int a2), (3, .int a3), (4, .int a4)], [], w)
  refine P_aload_n d_CM_arePoints_0 rfl ?_
  refine P_getf (i := 0) d_CM_arePoints_1 ok_CM (by decide) L_CM_12 (fa hC 28 rfl) rfl ?_
  refine P_iload_n d_CM_arePoints_4 rfl ?_
  refine P_callV (M := M_CM_arePoints) (pc := 5) (as := [.int a1]) (b := 1) d_CM_arePoints_5 co_Plane_hasPoint ok_Plane (fa hC 29 rfl) L_CM_160 im_Plane_hasPoint se_Plane_hasPoint (z_Plane_hasPoint hC a1) rfl ⟨by decide, by decide⟩ ⟨by decide, by decide⟩ (by decide) ?_ _ rfl
  rintro _ _ ⟨rfl, rfl⟩
  show PW _ _ _ _ _ _ (8, _, [.int 0], _)
  refine P_if_eq 49 d_CM_arePoints_8 (by decide) (fun _ => ?_) (fun h => absurd (by decide) h)
  refine P_iconst (v := 0) d_CM_arePoints_49 (by decide) ?_
  exact P_zret d_CM_arePoints_50 rfl rfl (le_b rfl) (le_b rfl) ⟨rfl, rfl⟩
theorem z_CM_meet {G : pG} {w : pW} (hC : Has cfL w.2) (a1 a2 a3 a4 a5 : Int32) : PM G M_CM_meet 2 0 0 [.ref 0, .int a1, .int a2, .int a3, .int a4, .int a5] w (fun r w' => r = some (.long (-9223372036854775808)) ∧ w' = w) := by
  refine PM_of pn_CM_meet (le_b rfl) ?_
  show PW _ _ _ _ _ _ (0, [(0, .ref 0), (1, .int a1), (2, .int a2), (3, .int a3), (4, .int a4), (5, .int a5)], [], w)
  refine P_aload_n d_CM_meet_0 rfl ?_
  refine P_iload_n d_CM_meet_1 rfl ?_
  refine P_iload_n d_CM_meet_2 rfl ?_
  refine P_iload_n d_CM_meet_3 rfl ?_
  refine P_iload d_CM_meet_4 rfl ?_
  refine P_callV (M := M_CM_meet) (pc := 6) (as := [.int a1, .int a2, .int a3, .int a4]) (b := 0) d_CM_meet_6 co_CM_arePoints ok_CM (fa hC 28 rfl) L_CM_330 im_CM_arePoints se_CM_arePoints (z_CM_arePoints hC a1 a2 a3 a4) rfl ⟨by decide, by decide⟩ ⟨by decide, by decide⟩ (by decide) ?_ _ rfl
  rintro _ _ ⟨rfl, rfl⟩
  show PW _ _ _ _ _ _ (9, _, [.int 0], _)
  refine P_if_eq 20 d_CM_meet_9 (by decide) (fun _ => ?_) (fun h => absurd (by decide) h)
  refine P_ldc2 (v := (-9223372036854775808)) d_CM_meet_20 L_CM_270 ?_
  exact P_lret d_CM_meet_23 rfl (le_b rfl) (le_b rfl) ⟨rfl, rfl⟩
theorem z_MD_meet {G : pG} {w : pW} (hM : Has mfL w.2) (a1 a2 a3 a4 a5 : Int32) : PM G M_MD_meet 1 0 0 [.ref 467, .int a1, .int a2, .int a3, .int a4, .int a5] w (fun r w' => r = some (.long (-9223372036854775808)) ∧ w' = w) := by
  refine PM_of pn_MD_meet (le_b rfl) ?_
  show PW _ _ _ _ _ _ (0, [(0, .ref 467), (1, .int a1), (2, .int a2), (3, .int a3), (4, .int a4), (5, .int a5)], [], w)
  refine P_aload_n d_MD_meet_0 rfl ?_
  refine P_iconst (v := 0) d_MD_meet_1 (by decide) ?_
  refine P_putS (i := 0) d_MD_meet_2 ok_Model (by decide) rfl L_MD_74 (fa hM 18 rfl) (fun _ => rfl) (fun _ => rfl) rfl ?_
  refine P_aload_n d_MD_meet_5 rfl ?_
  refine P_iload_n d_MD_meet_6 rfl ?_
  refine P_callV (M := M_MD_meet) (pc := 7) (as := [.int a1]) (b := 467) d_MD_meet_7 co_MD_isPoint ok_Model (fa hM 18 rfl) L_MD_247 im_MD_isPoint se_MD_isPoint (z_MD_isPoint hM a1) rfl ⟨by decide, by decide⟩ ⟨by decide, by decide⟩ (by decide) ?_ _ rfl
  rintro _ _ ⟨rfl, rfl⟩
  show PW _ _ _ _ _ _ (10, _, [.int 0], _)
  refine P_if_eq 46 d_MD_meet_10 (by decide) (fun _ => ?_) (fun h => absurd (by decide) h)
  refine P_ldc2 (v := (-9223372036854775808)) d_MD_meet_46 L_MD_307 ?_
  exact P_lret d_MD_meet_49 rfl (le_b rfl) (le_b rfl) ⟨rfl, rfl⟩
theorem z_CM_share {G : pG} {w : pW} (hC : Has cfL w.2) (a1 a2 a3 a4 a5 : Int32) : PM G M_CM_share 2 0 0 [.ref 0, .int a1, .int a2, .int a3, .int a4, .int a5] w (fun r w' => r = some (.long (-9223372036854775808)) ∧ w' = w) := by
  refine PM_of pn_CM_share (le_b rfl) ?_
  show PW _ _ _ _ _ _ (0, [(0, .ref 0), (1, .int a1), (2, .int a2), (3, .int a3), (4, .int a4), (5, .int a5)], [], w)
  refine P_aload_n d_CM_share_0 rfl ?_
  refine P_iload_n d_CM_share_1 rfl ?_
  refine P_iload_n d_CM_share_2 rfl ?_
  refine P_iload_n d_CM_share_3 rfl ?_
  refine P_iload d_CM_share_4 rfl ?_
  refine P_callV (M := M_CM_share) (pc := 6) (as := [.int a1, .int a2, .int a3, .int a4]) (b := 0) d_CM_share_6 co_CM_arePoints ok_CM (fa hC 28 rfl) L_CM_330 im_CM_arePoints se_CM_arePoints (z_CM_arePoints hC a1 a2 a3 a4) rfl ⟨by decide, by decide⟩ ⟨by decide, by decide⟩ (by decide) ?_ _ rfl
  rintro _ _ ⟨rfl, rfl⟩
  show PW _ _ _ _ _ _ (9, _, [.int 0], _)
  refine P_if_eq 20 d_CM_share_9 (by decide) (fun _ => ?_) (fun h => absurd (by decide) h)
  refine P_ldc2 (v := (-9223372036854775808)) d_CM_share_20 L_CM_270 ?_
  exact P_lret d_CM_share_23 rfl (le_b rfl) (le_b rfl) ⟨rfl, rfl⟩
theorem z_MD_share {G : pG} {w : pW} (hM : Has mfL w.2) (a1 a2 a3 a4 a5 : Int32) : PM G M_MD_share 1 0 0 [.ref 467, .int a1, .int a2, .int a3, .int a4, .int a5] w (fun r w' => r = some (.long (-9223372036854775808)) ∧ w' = w) := by
  refine PM_of pn_MD_share (le_b rfl) ?_
  show PW _ _ _ _ _ _ (0, [(0, .ref 467), (1, .int a1), (2, .int a2), (3, .int a3), (4, .int a4), (5, .int a5)], [], w)
  refine P_aload_n d_MD_share_0 rfl ?_
  refine P_iconst (v := 0) d_MD_share_1 (by decide) ?_
  refine P_putS (i := 0) d_MD_share_2 ok_Model (by decide) rfl L_MD_74 (fa hM 18 rfl) (fun _ => rfl) (fun _ => rfl) rfl ?_
  refine P_aload_n d_MD_share_5 rfl ?_
  refine P_iload_n d_MD_share_6 rfl ?_
  refine P_callV (M := M_MD_share) (pc := 7) (as := [.int a1]) (b := 467) d_MD_share_7 co_MD_isPoint ok_Model (fa hM 18 rfl) L_MD_247 im_MD_isPoint se_MD_isPoint (z_MD_isPoint hM a1) rfl ⟨by decide, by decide⟩ ⟨by decide, by decide⟩ (by decide) ?_ _ rfl
  rintro _ _ ⟨rfl, rfl⟩
  show PW _ _ _ _ _ _ (10, _, [.int 0], _)
  refine P_if_eq 49 d_MD_share_10 (by decide) (fun _ => ?_) (fun h => absurd (by decide) h)
  refine P_ldc2 (v := (-9223372036854775808)) d_MD_share_49 L_MD_307 ?_
  exact P_lret d_MD_share_52 rfl (le_b rfl) (le_b rfl) ⟨rfl, rfl⟩
theorem z_CM_fourth {G : pG} {w : pW} (hC : Has cfL w.2) (a1 a2 a3 a4 : Int32) : PM G M_CM_fourth 2 0 0 [.ref 0, .int a1, .int a2, .int a3, .int a4] w (fun r w' => r = some (.long (-9223372036854775808)) ∧ w' = w) := by
  refine PM_of pn_CM_fourth (le_b rfl) ?_
  show PW _ _ _ _ _ _ (0, [(0, .ref 0), (1, .int a1), (2, .int a2), (3, .int a3), (4, .int a4)], [], w)
  refine P_aload_n d_CM_fourth_0 rfl ?_
  refine P_iload_n d_CM_fourth_1 rfl ?_
  refine P_iload_n d_CM_fourth_2 rfl ?_
  refine P_iload_n d_CM_fourth_3 rfl ?_
  refine P_iload_n d_CM_fourth_4 rfl ?_
  refine P_callV (M := M_CM_fourth) (pc := 5) (as := [.int a1, .int a2, .int a3, .int a3]) (b := 0) d_CM_fourth_5 co_CM_arePoints ok_CM (fa hC 28 rfl) L_CM_330 im_CM_arePoints se_CM_arePoints (z_CM_arePoints hC a1 a2 a3 a3) rfl ⟨by decide, by decide⟩ ⟨by decide, by decide⟩ (by decide) ?_ _ rfl
  rintro _ _ ⟨rfl, rfl⟩
  show PW _ _ _ _ _ _ (8, _, [.int 0], _)
  refine P_if_eq 19 d_CM_fourth_8 (by decide) (fun _ => ?_) (fun h => absurd (by decide) h)
  refine P_ldc2 (v := (-9223372036854775808)) d_CM_fourth_19 L_CM_270 ?_
  exact P_lret d_CM_fourth_22 rfl (le_b rfl) (le_b rfl) ⟨rfl, rfl⟩
theorem z_MD_fourth {G : pG} {w : pW} (hM : Has mfL w.2) (a1 a2 a3 a4 : Int32) : PM G M_MD_fourth 1 0 0 [.ref 467, .int a1, .int a2, .int a3, .int a4] w (fun r w' => r = some (.long (-9223372036854775808)) ∧ w' = w) := by
  refine PM_of pn_MD_fourth (le_b rfl) ?_
  show PW _ _ _ _ _ _ (0, [(0, .ref 467), (1, .int a1), (2, .int a2), (3, .int a3), (4, .int a4)], [], w)
  refine P_aload_n d_MD_fourth_0 rfl ?_
  refine P_iconst (v := 0) d_MD_fourth_1 (by decide) ?_
  refine P_putS (i := 0) d_MD_fourth_2 ok_Model (by decide) rfl L_MD_74 (fa hM 18 rfl) (fun _ => rfl) (fun _ => rfl) rfl ?_
  refine P_aload_n d_MD_fourth_5 rfl ?_
  refine P_iload_n d_MD_fourth_6 rfl ?_
  refine P_callV (M := M_MD_fourth) (pc := 7) (as := [.int a1]) (b := 467) d_MD_fourth_7 co_MD_isPoint ok_Model (fa hM 18 rfl) L_MD_247 im_MD_isPoint se_MD_isPoint (z_MD_isPoint hM a1) rfl ⟨by decide, by decide⟩ ⟨by decide, by decide⟩ (by decide) ?_ _ rfl
  rintro _ _ ⟨rfl, rfl⟩
  show PW _ _ _ _ _ _ (10, _, [.int 0], _)
  refine P_if_eq 37 d_MD_fourth_10 (by decide) (fun _ => ?_) (fun h => absurd (by decide) h)
  refine P_ldc2 (v := (-9223372036854775808)) d_MD_fourth_37 L_MD_307 ?_
  exact P_lret d_MD_fourth_40 rfl (le_b rfl) (le_b rfl) ⟨rfl, rfl⟩
theorem z_CM_track {G : pG} {w : pW} (hC : Has cfL w.2) (a1 a2 a3 a4 : Int32) : PM G M_CM_track 1 0 0 [.ref 0, .int a1, .int a2, .int a3, .int a4] w (fun r w' => r = some (.long (-9223372036854775808)) ∧ w' = w) := by
  refine PM_of pn_CM_track (le_b rfl) ?_
  show PW _ _ _ _ _ _ (0, [(0, .ref 0), (1, .int a1), (2, .int a2), (3, .int a3), (4, .int a4)], [], w)
  refine P_aload_n d_CM_track_0 rfl ?_
  refine P_getf (i := 0) d_CM_track_1 ok_CM (by decide) L_CM_12 (fa hC 28 rfl) rfl ?_
  refine P_iload_n d_CM_track_4 rfl ?_
  refine P_callV (M := M_CM_track) (pc := 5) (as := [.int a1]) (b := 1) d_CM_track_5 co_Plane_hasMap ok_Plane (fa hC 29 rfl) L_CM_151 im_Plane_hasMap se_Plane_hasMap (z_Plane_hasMap hC a1) rfl ⟨by decide, by decide⟩ ⟨by decide, by decide⟩ (by decide) ?_ _ rfl
  rintro _ _ ⟨rfl, rfl⟩
  show PW _ _ _ _ _ _ (8, _, [.int 0], _)
  refine P_if_eq 40 d_CM_track_8 (by decide) (fun _ => ?_) (fun h => absurd (by decide) h)
  refine P_ldc2 (v := (-9223372036854775808)) d_CM_track_40 L_CM_270 ?_
  exact P_lret d_CM_track_43 rfl (le_b rfl) (le_b rfl) ⟨rfl, rfl⟩
theorem z_MD_track {G : pG} {w : pW} (hM : Has mfL w.2) (a1 a2 a3 a4 : Int32) : PM G M_MD_track 1 0 0 [.ref 467, .int a1, .int a2, .int a3, .int a4] w (fun r w' => r = some (.long (-9223372036854775808)) ∧ w' = w) := by
  refine PM_of pn_MD_track (le_b rfl) ?_
  show PW _ _ _ _ _ _ (0, [(0, .ref 467), (1, .int a1), (2, .int a2), (3, .int a3), (4, .int a4)], [], w)
  refine P_aload_n d_MD_track_0 rfl ?_
  refine P_iconst (v := 0) d_MD_track_1 (by decide) ?_
  refine P_putS (i := 0) d_MD_track_2 ok_Model (by decide) rfl L_MD_74 (fa hM 18 rfl) (fun _ => rfl) (fun _ => rfl) rfl ?_
  refine P_aload_n d_MD_track_5 rfl ?_
  refine P_iload_n d_MD_track_6 rfl ?_
  refine P_callV (M := M_MD_track) (pc := 7) (as := [.int a1]) (b := 467) d_MD_track_7 co_MD_isMap ok_Model (fa hM 18 rfl) L_MD_241 im_MD_isMap se_MD_isMap (z_MD_isMap hM a1) rfl ⟨by decide, by decide⟩ ⟨by decide, by decide⟩ (by decide) ?_ _ rfl
  rintro _ _ ⟨rfl, rfl⟩
  show PW _ _ _ _ _ _ (10, _, [.int 0], _)
  refine P_if_eq 39 d_MD_track_10 (by decide) (fun _ => ?_) (fun h => absurd (by decide) h)
  refine P_ldc2 (v := (-9223372036854775808)) d_MD_track_39 L_MD_307 ?_
  exact P_lret d_MD_track_42 rfl (le_b rfl) (le_b rfl) ⟨rfl, rfl⟩
theorem z_CM_cycle {G : pG} {w : pW} (hC : Has cfL w.2) (a1 a2 : Int32) : PM G M_CM_cycle 1 0 0 [.ref 0, .int a1, .int a2] w (fun r w' => r = some (.int (-1)) ∧ w' = w) := by
  refine PM_of pn_CM_cycle (le_b rfl) ?_
  show PW _ _ _ _ _ _ (0, [(0, .ref 0), (1, .int a1), (2, .int a2)], [], w)
  refine P_aload_n d_CM_cycle_0 rfl ?_
  refine P_getf (i := 0) d_CM_cycle_1 ok_CM (by decide) L_CM_12 (fa hC 28 rfl) rfl ?_
  refine P_iload_n d_CM_cycle_4 rfl ?_
  refine P_callV (M := M_CM_cycle) (pc := 5) (as := [.int a1]) (b := 1) d_CM_cycle_5 co_Plane_hasMap ok_Plane (fa hC 29 rfl) L_CM_151 im_Plane_hasMap se_Plane_hasMap (z_Plane_hasMap hC a1) rfl ⟨by decide, by decide⟩ ⟨by decide, by decide⟩ (by decide) ?_ _ rfl
  rintro _ _ ⟨rfl, rfl⟩
  show PW _ _ _ _ _ _ (8, _, [.int 0], _)
  refine P_if_eq 22 d_CM_cycle_8 (by decide) (fun _ => ?_) (fun h => absurd (by decide) h)
  refine P_iconst (v := (-1)) d_CM_cycle_22 (by decide) ?_
  exact P_iret d_CM_cycle_23 rfl (le_b rfl) (le_b rfl) ⟨rfl, rfl⟩
theorem z_MD_cycle {G : pG} {w : pW} (hM : Has mfL w.2) (a1 a2 : Int32) : PM G M_MD_cycle 1 0 0 [.ref 467, .int a1, .int a2] w (fun r w' => r = some (.int (-1)) ∧ w' = w) := by
  refine PM_of pn_MD_cycle (le_b rfl) ?_
  show PW _ _ _ _ _ _ (0, [(0, .ref 467), (1, .int a1), (2, .int a2)], [], w)
  refine P_aload_n d_MD_cycle_0 rfl ?_
  refine P_iconst (v := 0) d_MD_cycle_1 (by decide) ?_
  refine P_putS (i := 0) d_MD_cycle_2 ok_Model (by decide) rfl L_MD_74 (fa hM 18 rfl) (fun _ => rfl) (fun _ => rfl) rfl ?_
  refine P_aload_n d_MD_cycle_5 rfl ?_
  refine P_iload_n d_MD_cycle_6 rfl ?_
  refine P_callV (M := M_MD_cycle) (pc := 7) (as := [.int a1]) (b := 467) d_MD_cycle_7 co_MD_isMap ok_Model (fa hM 18 rfl) L_MD_241 im_MD_isMap se_MD_isMap (z_MD_isMap hM a1) rfl ⟨by decide, by decide⟩ ⟨by decide, by decide⟩ (by decide) ?_ _ rfl
  rintro _ _ ⟨rfl, rfl⟩
  show PW _ _ _ _ _ _ (10, _, [.int 0], _)
  refine P_if_eq 21 d_MD_cycle_10 (by decide) (fun _ => ?_) (fun h => absurd (by decide) h)
  refine P_iconst (v := (-1)) d_MD_cycle_21 (by decide) ?_
  exact P_iret d_MD_cycle_22 rfl (le_b rfl) (le_b rfl) ⟨rfl, rfl⟩
theorem z_CM_whole {G : pG} {w : pW} (hC : Has cfL w.2) (a1 a2 : Int32) : PM G M_CM_whole 1 0 0 [.ref 0, .int a1, .int a2] w (fun r w' => r = some (.int (-1)) ∧ w' = w) := by
  refine PM_of pn_CM_whole (le_b rfl) ?_
  show PW _ _ _ _ _ _ (0, [(0, .ref 0), (1, .int a1), (2, .int a2)], [], w)
  refine P_aload_n d_CM_whole_0 rfl ?_
  refine P_getf (i := 0) d_CM_whole_1 ok_CM (by decide) L_CM_12 (fa hC 28 rfl) rfl ?_
  refine P_iload_n d_CM_whole_4 rfl ?_
  refine P_callV (M := M_CM_whole) (pc := 5) (as := [.int a1]) (b := 1) d_CM_whole_5 co_Plane_hasMap ok_Plane (fa hC 29 rfl) L_CM_151 im_Plane_hasMap se_Plane_hasMap (z_Plane_hasMap hC a1) rfl ⟨by decide, by decide⟩ ⟨by decide, by decide⟩ (by decide) ?_ _ rfl
  rintro _ _ ⟨rfl, rfl⟩
  show PW _ _ _ _ _ _ (8, _, [.int 0], _)
  refine P_if_eq 21 d_CM_whole_8 (by decide) (fun _ => ?_) (fun h => absurd (by decide) h)
  refine P_iconst (v := (-1)) d_CM_whole_21 (by decide) ?_
  exact P_iret d_CM_whole_22 rfl (le_b rfl) (le_b rfl) ⟨rfl, rfl⟩
theorem z_MD_whole {G : pG} {w : pW} (hM : Has mfL w.2) (a1 a2 : Int32) : PM G M_MD_whole 1 0 0 [.ref 467, .int a1, .int a2] w (fun r w' => r = some (.int (-1)) ∧ w' = w) := by
  refine PM_of pn_MD_whole (le_b rfl) ?_
  show PW _ _ _ _ _ _ (0, [(0, .ref 467), (1, .int a1), (2, .int a2)], [], w)
  refine P_aload_n d_MD_whole_0 rfl ?_
  refine P_iconst (v := 0) d_MD_whole_1 (by decide) ?_
  refine P_putS (i := 0) d_MD_whole_2 ok_Model (by decide) rfl L_MD_74 (fa hM 18 rfl) (fun _ => rfl) (fun _ => rfl) rfl ?_
  refine P_aload_n d_MD_whole_5 rfl ?_
  refine P_iload_n d_MD_whole_6 rfl ?_
  refine P_callV (M := M_MD_whole) (pc := 7) (as := [.int a1]) (b := 467) d_MD_whole_7 co_MD_isMap ok_Model (fa hM 18 rfl) L_MD_241 im_MD_isMap se_MD_isMap (z_MD_isMap hM a1) rfl ⟨by decide, by decide⟩ ⟨by decide, by decide⟩ (by decide) ?_ _ rfl
  rintro _ _ ⟨rfl, rfl⟩
  show PW _ _ _ _ _ _ (10, _, [.int 0], _)
  refine P_if_eq 23 d_MD_whole_10 (by decide) (fun _ => ?_) (fun h => absurd (by decide) h)
  refine P_iconst (v := (-1)) d_MD_whole_23 (by decide) ?_
  exact P_iret d_MD_whole_24 rfl (le_b rfl) (le_b rfl) ⟨rfl, rfl⟩
theorem z_CM_inside {G : pG} {w : pW} (hC : Has cfL w.2) (a1 a2 : Int32) : PM G M_CM_inside 1 0 0 [.ref 0, .int a1, .int a2] w (fun r w' => r = some (.int (-1)) ∧ w' = w) := by
  refine PM_of pn_CM_inside (le_b rfl) ?_
  show PW _ _ _ _ _ _ (0, [(0, .ref 0), (1, .int a1), (2, .int a2)], [], w)
  refine P_aload_n d_CM_inside_0 rfl ?_
  refine P_getf (i := 0) d_CM_inside_1 ok_CM (by decide) L_CM_12 (fa hC 28 rfl) rfl ?_
  refine P_iload_n d_CM_inside_4 rfl ?_
  refine P_callV (M := M_CM_inside) (pc := 5) (as := [.int a1]) (b := 1) d_CM_inside_5 co_Plane_hasQuad ok_Plane (fa hC 29 rfl) L_CM_127 im_Plane_hasQuad se_Plane_hasQuad (z_Plane_hasQuad hC a1) rfl ⟨by decide, by decide⟩ ⟨by decide, by decide⟩ (by decide) ?_ _ rfl
  rintro _ _ ⟨rfl, rfl⟩
  show PW _ _ _ _ _ _ (8, _, [.int 0], _)
  refine P_if_eq 22 d_CM_inside_8 (by decide) (fun _ => ?_) (fun h => absurd (by decide) h)
  refine P_iconst (v := (-1)) d_CM_inside_22 (by decide) ?_
  exact P_iret d_CM_inside_23 rfl (le_b rfl) (le_b rfl) ⟨rfl, rfl⟩
theorem z_MD_inside {G : pG} {w : pW} (hM : Has mfL w.2) (a1 a2 : Int32) : PM G M_MD_inside 1 0 0 [.ref 467, .int a1, .int a2] w (fun r w' => r = some (.int (-1)) ∧ w' = w) := by
  refine PM_of pn_MD_inside (le_b rfl) ?_
  show PW _ _ _ _ _ _ (0, [(0, .ref 467), (1, .int a1), (2, .int a2)], [], w)
  refine P_aload_n d_MD_inside_0 rfl ?_
  refine P_iconst (v := 0) d_MD_inside_1 (by decide) ?_
  refine P_putS (i := 0) d_MD_inside_2 ok_Model (by decide) rfl L_MD_74 (fa hM 18 rfl) (fun _ => rfl) (fun _ => rfl) rfl ?_
  refine P_aload_n d_MD_inside_5 rfl ?_
  refine P_iload_n d_MD_inside_6 rfl ?_
  refine P_callV (M := M_MD_inside) (pc := 7) (as := [.int a1]) (b := 467) d_MD_inside_7 co_MD_isQuad ok_Model (fa hM 18 rfl) L_MD_238 im_MD_isQuad se_MD_isQuad (z_MD_isQuad hM a1) rfl ⟨by decide, by decide⟩ ⟨by decide, by decide⟩ (by decide) ?_ _ rfl
  rintro _ _ ⟨rfl, rfl⟩
  show PW _ _ _ _ _ _ (10, _, [.int 0], _)
  refine P_if_eq 21 d_MD_inside_10 (by decide) (fun _ => ?_) (fun h => absurd (by decide) h)
  refine P_iconst (v := (-1)) d_MD_inside_21 (by decide) ?_
  exact P_iret d_MD_inside_22 rfl (le_b rfl) (le_b rfl) ⟨rfl, rfl⟩
theorem z_CM_crossings {G : pG} {w : pW} (hC : Has cfL w.2) (a1 a2 : Int32) : PM G M_CM_crossings 1 0 0 [.ref 0, .int a1, .int a2] w (fun r w' => r = some (.int (-1)) ∧ w' = w) := by
  refine PM_of pn_CM_crossings (le_b rfl) ?_
  show PW _ _ _ _ _ _ (0, [(0, .ref 0), (1, .int a1), (2, .int a2)], [], w)
  refine P_aload_n d_CM_crossings_0 rfl ?_
  refine P_getf (i := 0) d_CM_crossings_1 ok_CM (by decide) L_CM_12 (fa hC 28 rfl) rfl ?_
  refine P_iload_n d_CM_crossings_4 rfl ?_
  refine P_callV (M := M_CM_crossings) (pc := 5) (as := [.int a1]) (b := 1) d_CM_crossings_5 co_Plane_hasQuad ok_Plane (fa hC 29 rfl) L_CM_127 im_Plane_hasQuad se_Plane_hasQuad (z_Plane_hasQuad hC a1) rfl ⟨by decide, by decide⟩ ⟨by decide, by decide⟩ (by decide) ?_ _ rfl
  rintro _ _ ⟨rfl, rfl⟩
  show PW _ _ _ _ _ _ (8, _, [.int 0], _)
  refine P_if_eq 22 d_CM_crossings_8 (by decide) (fun _ => ?_) (fun h => absurd (by decide) h)
  refine P_iconst (v := (-1)) d_CM_crossings_22 (by decide) ?_
  exact P_iret d_CM_crossings_23 rfl (le_b rfl) (le_b rfl) ⟨rfl, rfl⟩
theorem z_MD_crossings {G : pG} {w : pW} (hM : Has mfL w.2) (a1 a2 : Int32) : PM G M_MD_crossings 1 0 0 [.ref 467, .int a1, .int a2] w (fun r w' => r = some (.int (-1)) ∧ w' = w) := by
  refine PM_of pn_MD_crossings (le_b rfl) ?_
  show PW _ _ _ _ _ _ (0, [(0, .ref 467), (1, .int a1), (2, .int a2)], [], w)
  refine P_aload_n d_MD_crossings_0 rfl ?_
  refine P_iconst (v := 0) d_MD_crossings_1 (by decide) ?_
  refine P_putS (i := 0) d_MD_crossings_2 ok_Model (by decide) rfl L_MD_74 (fa hM 18 rfl) (fun _ => rfl) (fun _ => rfl) rfl ?_
  refine P_aload_n d_MD_crossings_5 rfl ?_
  refine P_iload_n d_MD_crossings_6 rfl ?_
  refine P_callV (M := M_MD_crossings) (pc := 7) (as := [.int a1]) (b := 467) d_MD_crossings_7 co_MD_isQuad ok_Model (fa hM 18 rfl) L_MD_238 im_MD_isQuad se_MD_isQuad (z_MD_isQuad hM a1) rfl ⟨by decide, by decide⟩ ⟨by decide, by decide⟩ (by decide) ?_ _ rfl
  rintro _ _ ⟨rfl, rfl⟩
  show PW _ _ _ _ _ _ (10, _, [.int 0], _)
  refine P_if_eq 21 d_MD_crossings_10 (by decide) (fun _ => ?_) (fun h => absurd (by decide) h)
  refine P_iconst (v := (-1)) d_MD_crossings_21 (by decide) ?_
  exact P_iret d_MD_crossings_22 rfl (le_b rfl) (le_b rfl) ⟨rfl, rfl⟩
theorem z_CM_diagonal {G : pG} {w : pW} (hC : Has cfL w.2) (a1 a2 a3 : Int32) : PM G M_CM_diagonal 1 0 0 [.ref 0, .int a1, .int a2, .int a3] w (fun r w' => r = some (.long (-9223372036854775808)) ∧ w' = w) := by
  refine PM_of pn_CM_diagonal (le_b rfl) ?_
  show PW _ _ _ _ _ _ (0, [(0, .ref 0), (1, .int a1), (2, .int a2), (3, .int a3)], [], w)
  refine P_aload_n d_CM_diagonal_0 rfl ?_
  refine P_getf (i := 0) d_CM_diagonal_1 ok_CM (by decide) L_CM_12 (fa hC 28 rfl) rfl ?_
  refine P_iload_n d_CM_diagonal_4 rfl ?_
  refine P_callV (M := M_CM_diagonal) (pc := 5) (as := [.int a1]) (b := 1) d_CM_diagonal_5 co_Plane_hasQuad ok_Plane (fa hC 29 rfl) L_CM_127 im_Plane_hasQuad se_Plane_hasQuad (z_Plane_hasQuad hC a1) rfl ⟨by decide, by decide⟩ ⟨by decide, by decide⟩ (by decide) ?_ _ rfl
  rintro _ _ ⟨rfl, rfl⟩
  show PW _ _ _ _ _ _ (8, _, [.int 0], _)
  refine P_if_eq 25 d_CM_diagonal_8 (by decide) (fun _ => ?_) (fun h => absurd (by decide) h)
  refine P_ldc2 (v := (-9223372036854775808)) d_CM_diagonal_25 L_CM_270 ?_
  exact P_lret d_CM_diagonal_28 rfl (le_b rfl) (le_b rfl) ⟨rfl, rfl⟩
theorem z_MD_diagonal {G : pG} {w : pW} (hM : Has mfL w.2) (a1 a2 a3 : Int32) : PM G M_MD_diagonal 1 0 0 [.ref 467, .int a1, .int a2, .int a3] w (fun r w' => r = some (.long (-9223372036854775808)) ∧ w' = w) := by
  refine PM_of pn_MD_diagonal (le_b rfl) ?_
  show PW _ _ _ _ _ _ (0, [(0, .ref 467), (1, .int a1), (2, .int a2), (3, .int a3)], [], w)
  refine P_aload_n d_MD_diagonal_0 rfl ?_
  refine P_iconst (v := 0) d_MD_diagonal_1 (by decide) ?_
  refine P_putS (i := 0) d_MD_diagonal_2 ok_Model (by decide) rfl L_MD_74 (fa hM 18 rfl) (fun _ => rfl) (fun _ => rfl) rfl ?_
  refine P_aload_n d_MD_diagonal_5 rfl ?_
  refine P_iload_n d_MD_diagonal_6 rfl ?_
  refine P_callV (M := M_MD_diagonal) (pc := 7) (as := [.int a1]) (b := 467) d_MD_diagonal_7 co_MD_isQuad ok_Model (fa hM 18 rfl) L_MD_238 im_MD_isQuad se_MD_isQuad (z_MD_isQuad hM a1) rfl ⟨by decide, by decide⟩ ⟨by decide, by decide⟩ (by decide) ?_ _ rfl
  rintro _ _ ⟨rfl, rfl⟩
  show PW _ _ _ _ _ _ (10, _, [.int 0], _)
  refine P_if_eq 27 d_MD_diagonal_10 (by decide) (fun _ => ?_) (fun h => absurd (by decide) h)
  refine P_ldc2 (v := (-9223372036854775808)) d_MD_diagonal_27 L_MD_307 ?_
  exact P_lret d_MD_diagonal_30 rfl (le_b rfl) (le_b rfl) ⟨rfl, rfl⟩
theorem z_CM_parallel {G : pG} {w : pW} (hC : Has cfL w.2) (a1 a2 : Int32) : PM G M_CM_parallel 1 0 0 [.ref 0, .int a1, .int a2] w (fun r w' => r = some (.int (-1)) ∧ w' = w) := by
  refine PM_of pn_CM_parallel (le_b rfl) ?_
  show PW _ _ _ _ _ _ (0, [(0, .ref 0), (1, .int a1), (2, .int a2)], [], w)
  refine P_aload_n d_CM_parallel_0 rfl ?_
  refine P_getf (i := 0) d_CM_parallel_1 ok_CM (by decide) L_CM_12 (fa hC 28 rfl) rfl ?_
  refine P_iload_n d_CM_parallel_4 rfl ?_
  refine P_callV (M := M_CM_parallel) (pc := 5) (as := [.int a1]) (b := 1) d_CM_parallel_5 co_Plane_hasMap ok_Plane (fa hC 29 rfl) L_CM_151 im_Plane_hasMap se_Plane_hasMap (z_Plane_hasMap hC a1) rfl ⟨by decide, by decide⟩ ⟨by decide, by decide⟩ (by decide) ?_ _ rfl
  rintro _ _ ⟨rfl, rfl⟩
  show PW _ _ _ _ _ _ (8, _, [.int 0], _)
  refine P_if_eq 22 d_CM_parallel_8 (by decide) (fun _ => ?_) (fun h => absurd (by decide) h)
  refine P_iconst (v := (-1)) d_CM_parallel_22 (by decide) ?_
  exact P_iret d_CM_parallel_23 rfl (le_b rfl) (le_b rfl) ⟨rfl, rfl⟩
theorem z_MD_parallel {G : pG} {w : pW} (hM : Has mfL w.2) (a1 a2 : Int32) : PM G M_MD_parallel 1 0 0 [.ref 467, .int a1, .int a2] w (fun r w' => r = some (.int (-1)) ∧ w' = w) := by
  refine PM_of pn_MD_parallel (le_b rfl) ?_
  show PW _ _ _ _ _ _ (0, [(0, .ref 467), (1, .int a1), (2, .int a2)], [], w)
  refine P_aload_n d_MD_parallel_0 rfl ?_
  refine P_iconst (v := 0) d_MD_parallel_1 (by decide) ?_
  refine P_putS (i := 0) d_MD_parallel_2 ok_Model (by decide) rfl L_MD_74 (fa hM 18 rfl) (fun _ => rfl) (fun _ => rfl) rfl ?_
  refine P_aload_n d_MD_parallel_5 rfl ?_
  refine P_iload_n d_MD_parallel_6 rfl ?_
  refine P_callV (M := M_MD_parallel) (pc := 7) (as := [.int a1]) (b := 467) d_MD_parallel_7 co_MD_isMap ok_Model (fa hM 18 rfl) L_MD_241 im_MD_isMap se_MD_isMap (z_MD_isMap hM a1) rfl ⟨by decide, by decide⟩ ⟨by decide, by decide⟩ (by decide) ?_ _ rfl
  rintro _ _ ⟨rfl, rfl⟩
  show PW _ _ _ _ _ _ (10, _, [.int 0], _)
  refine P_if_eq 21 d_MD_parallel_10 (by decide) (fun _ => ?_) (fun h => absurd (by decide) h)
  refine P_iconst (v := (-1)) d_MD_parallel_21 (by decide) ?_
  exact P_iret d_MD_parallel_22 rfl (le_b rfl) (le_b rfl) ⟨rfl, rfl⟩
theorem z_CM_shapeBy {G : pG} {w : pW} (hC : Has cfL w.2) (a1 a2 : Int32) : PM G M_CM_shapeBy 1 0 0 [.ref 0, .int a1, .int a2] w (fun r w' => r = some (.int (-1)) ∧ w' = w) := by
  refine PM_of pn_CM_shapeBy (le_b rfl) ?_
  show PW _ _ _ _ _ _ (0, [(0, .ref 0), (1, .int a1), (2, .int a2)], [], w)
  refine P_aload_n d_CM_shapeBy_0 rfl ?_
  refine P_getf (i := 0) d_CM_shapeBy_1 ok_CM (by decide) L_CM_12 (fa hC 28 rfl) rfl ?_
  refine P_iload_n d_CM_shapeBy_4 rfl ?_
  refine P_callV (M := M_CM_shapeBy) (pc := 5) (as := [.int a1]) (b := 1) d_CM_shapeBy_5 co_Plane_hasMap ok_Plane (fa hC 29 rfl) L_CM_151 im_Plane_hasMap se_Plane_hasMap (z_Plane_hasMap hC a1) rfl ⟨by decide, by decide⟩ ⟨by decide, by decide⟩ (by decide) ?_ _ rfl
  rintro _ _ ⟨rfl, rfl⟩
  show PW _ _ _ _ _ _ (8, _, [.int 0], _)
  refine P_if_eq 22 d_CM_shapeBy_8 (by decide) (fun _ => ?_) (fun h => absurd (by decide) h)
  refine P_iconst (v := (-1)) d_CM_shapeBy_22 (by decide) ?_
  exact P_iret d_CM_shapeBy_23 rfl (le_b rfl) (le_b rfl) ⟨rfl, rfl⟩
theorem z_MD_shapeBy {G : pG} {w : pW} (hM : Has mfL w.2) (a1 a2 : Int32) : PM G M_MD_shapeBy 1 0 0 [.ref 467, .int a1, .int a2] w (fun r w' => r = some (.int (-1)) ∧ w' = w) := by
  refine PM_of pn_MD_shapeBy (le_b rfl) ?_
  show PW _ _ _ _ _ _ (0, [(0, .ref 467), (1, .int a1), (2, .int a2)], [], w)
  refine P_aload_n d_MD_shapeBy_0 rfl ?_
  refine P_iconst (v := 0) d_MD_shapeBy_1 (by decide) ?_
  refine P_putS (i := 0) d_MD_shapeBy_2 ok_Model (by decide) rfl L_MD_74 (fa hM 18 rfl) (fun _ => rfl) (fun _ => rfl) rfl ?_
  refine P_aload_n d_MD_shapeBy_5 rfl ?_
  refine P_iload_n d_MD_shapeBy_6 rfl ?_
  refine P_callV (M := M_MD_shapeBy) (pc := 7) (as := [.int a1]) (b := 467) d_MD_shapeBy_7 co_MD_isMap ok_Model (fa hM 18 rfl) L_MD_241 im_MD_isMap se_MD_isMap (z_MD_isMap hM a1) rfl ⟨by decide, by decide⟩ ⟨by decide, by decide⟩ (by decide) ?_ _ rfl
  rintro _ _ ⟨rfl, rfl⟩
  show PW _ _ _ _ _ _ (10, _, [.int 0], _)
  refine P_if_eq 21 d_MD_shapeBy_10 (by decide) (fun _ => ?_) (fun h => absurd (by decide) h)
  refine P_iconst (v := (-1)) d_MD_shapeBy_21 (by decide) ?_
  exact P_iret d_MD_shapeBy_22 rfl (le_b rfl) (le_b rfl) ⟨rfl, rfl⟩
theorem z_CM_symmetries {G : pG} {w : pW} (hC : Has cfL w.2) (a1 a2 : Int32) : PM G M_CM_symmetries 1 0 0 [.ref 0, .int a1, .int a2] w (fun r w' => r = some (.int (-1)) ∧ w' = w) := by
  refine PM_of pn_CM_symmetries (le_b rfl) ?_
  show PW _ _ _ _ _ _ (0, [(0, .ref 0), (1, .int a1), (2, .int a2)], [], w)
  refine P_aload_n d_CM_symmetries_0 rfl ?_
  refine P_getf (i := 0) d_CM_symmetries_1 ok_CM (by decide) L_CM_12 (fa hC 28 rfl) rfl ?_
  refine P_iload_n d_CM_symmetries_4 rfl ?_
  refine P_callV (M := M_CM_symmetries) (pc := 5) (as := [.int a1]) (b := 1) d_CM_symmetries_5 co_Plane_hasQuad ok_Plane (fa hC 29 rfl) L_CM_127 im_Plane_hasQuad se_Plane_hasQuad (z_Plane_hasQuad hC a1) rfl ⟨by decide, by decide⟩ ⟨by decide, by decide⟩ (by decide) ?_ _ rfl
  rintro _ _ ⟨rfl, rfl⟩
  show PW _ _ _ _ _ _ (8, _, [.int 0], _)
  refine P_if_eq 18 d_CM_symmetries_8 (by decide) (fun _ => ?_) (fun h => absurd (by decide) h)
  refine P_iconst (v := (-1)) d_CM_symmetries_18 (by decide) ?_
  exact P_iret d_CM_symmetries_19 rfl (le_b rfl) (le_b rfl) ⟨rfl, rfl⟩
theorem z_MD_symmetries {G : pG} {w : pW} (hM : Has mfL w.2) (a1 a2 : Int32) : PM G M_MD_symmetries 1 0 0 [.ref 467, .int a1, .int a2] w (fun r w' => r = some (.int (-1)) ∧ w' = w) := by
  refine PM_of pn_MD_symmetries (le_b rfl) ?_
  show PW _ _ _ _ _ _ (0, [(0, .ref 467), (1, .int a1), (2, .int a2)], [], w)
  refine P_aload_n d_MD_symmetries_0 rfl ?_
  refine P_iconst (v := 0) d_MD_symmetries_1 (by decide) ?_
  refine P_putS (i := 0) d_MD_symmetries_2 ok_Model (by decide) rfl L_MD_74 (fa hM 18 rfl) (fun _ => rfl) (fun _ => rfl) rfl ?_
  refine P_aload_n d_MD_symmetries_5 rfl ?_
  refine P_iload_n d_MD_symmetries_6 rfl ?_
  refine P_callV (M := M_MD_symmetries) (pc := 7) (as := [.int a1]) (b := 467) d_MD_symmetries_7 co_MD_isQuad ok_Model (fa hM 18 rfl) L_MD_238 im_MD_isQuad se_MD_isQuad (z_MD_isQuad hM a1) rfl ⟨by decide, by decide⟩ ⟨by decide, by decide⟩ (by decide) ?_ _ rfl
  rintro _ _ ⟨rfl, rfl⟩
  show PW _ _ _ _ _ _ (10, _, [.int 0], _)
  refine P_if_eq 22 d_MD_symmetries_10 (by decide) (fun _ => ?_) (fun h => absurd (by decide) h)
  refine P_iconst (v := (-1)) d_MD_symmetries_22 (by decide) ?_
  exact P_iret d_MD_symmetries_23 rfl (le_b rfl) (le_b rfl) ⟨rfl, rfl⟩
theorem z_CM_symmetry {G : pG} {w : pW} (hC : Has cfL w.2) (a1 a2 : Int32) : PM G M_CM_symmetry 1 0 0 [.ref 0, .int a1, .int a2] w (fun r w' => r = some (.int (-1)) ∧ w' = w) := by
  refine PM_of pn_CM_symmetry (le_b rfl) ?_
  show PW _ _ _ _ _ _ (0, [(0, .ref 0), (1, .int a1), (2, .int a2)], [], w)
  refine P_aload_n d_CM_symmetry_0 rfl ?_
  refine P_getf (i := 0) d_CM_symmetry_1 ok_CM (by decide) L_CM_12 (fa hC 28 rfl) rfl ?_
  refine P_iload_n d_CM_symmetry_4 rfl ?_
  refine P_callV (M := M_CM_symmetry) (pc := 5) (as := [.int a1]) (b := 1) d_CM_symmetry_5 co_Plane_hasQuad ok_Plane (fa hC 29 rfl) L_CM_127 im_Plane_hasQuad se_Plane_hasQuad (z_Plane_hasQuad hC a1) rfl ⟨by decide, by decide⟩ ⟨by decide, by decide⟩ (by decide) ?_ _ rfl
  rintro _ _ ⟨rfl, rfl⟩
  show PW _ _ _ _ _ _ (8, _, [.int 0], _)
  refine P_if_eq 21 d_CM_symmetry_8 (by decide) (fun _ => ?_) (fun h => absurd (by decide) h)
  refine P_iconst (v := (-1)) d_CM_symmetry_21 (by decide) ?_
  exact P_iret d_CM_symmetry_22 rfl (le_b rfl) (le_b rfl) ⟨rfl, rfl⟩
theorem z_MD_symmetry {G : pG} {w : pW} (hM : Has mfL w.2) (a1 a2 : Int32) : PM G M_MD_symmetry 1 0 0 [.ref 467, .int a1, .int a2] w (fun r w' => r = some (.int (-1)) ∧ w' = w) := by
  refine PM_of pn_MD_symmetry (le_b rfl) ?_
  show PW _ _ _ _ _ _ (0, [(0, .ref 467), (1, .int a1), (2, .int a2)], [], w)
  refine P_aload_n d_MD_symmetry_0 rfl ?_
  refine P_iconst (v := 0) d_MD_symmetry_1 (by decide) ?_
  refine P_putS (i := 0) d_MD_symmetry_2 ok_Model (by decide) rfl L_MD_74 (fa hM 18 rfl) (fun _ => rfl) (fun _ => rfl) rfl ?_
  refine P_aload_n d_MD_symmetry_5 rfl ?_
  refine P_iload_n d_MD_symmetry_6 rfl ?_
  refine P_callV (M := M_MD_symmetry) (pc := 7) (as := [.int a1]) (b := 467) d_MD_symmetry_7 co_MD_isQuad ok_Model (fa hM 18 rfl) L_MD_238 im_MD_isQuad se_MD_isQuad (z_MD_isQuad hM a1) rfl ⟨by decide, by decide⟩ ⟨by decide, by decide⟩ (by decide) ?_ _ rfl
  rintro _ _ ⟨rfl, rfl⟩
  show PW _ _ _ _ _ _ (10, _, [.int 0], _)
  refine P_if_eq 23 d_MD_symmetry_10 (by decide) (fun _ => ?_) (fun h => absurd (by decide) h)
  refine P_iconst (v := (-1)) d_MD_symmetry_23 (by decide) ?_
  exact P_iret d_MD_symmetry_24 rfl (le_b rfl) (le_b rfl) ⟨rfl, rfl⟩
theorem z_CM_word {G : pG} {w : pW} (hC : Has cfL w.2) (a1 a2 : Int32) : PM G M_CM_word 1 0 0 [.ref 0, .int a1, .int a2] w (fun r w' => r = some (.int (-1)) ∧ w' = w) := by
  refine PM_of pn_CM_word (le_b rfl) ?_
  show PW _ _ _ _ _ _ (0, [(0, .ref 0), (1, .int a1), (2, .int a2)], [], w)
  refine P_aload_n d_CM_word_0 rfl ?_
  refine P_getf (i := 0) d_CM_word_1 ok_CM (by decide) L_CM_12 (fa hC 28 rfl) rfl ?_
  refine P_iload_n d_CM_word_4 rfl ?_
  refine P_callV (M := M_CM_word) (pc := 5) (as := [.int a1]) (b := 1) d_CM_word_5 co_Plane_hasMap ok_Plane (fa hC 29 rfl) L_CM_151 im_Plane_hasMap se_Plane_hasMap (z_Plane_hasMap hC a1) rfl ⟨by decide, by decide⟩ ⟨by decide, by decide⟩ (by decide) ?_ _ rfl
  rintro _ _ ⟨rfl, rfl⟩
  show PW _ _ _ _ _ _ (8, _, [.int 0], _)
  refine P_if_eq 16 d_CM_word_8 (by decide) (fun _ => ?_) (fun h => absurd (by decide) h)
  refine P_iconst (v := (-1)) d_CM_word_16 (by decide) ?_
  exact P_iret d_CM_word_17 rfl (le_b rfl) (le_b rfl) ⟨rfl, rfl⟩
theorem z_MD_word {G : pG} {w : pW} (hM : Has mfL w.2) (a1 a2 : Int32) : PM G M_MD_word 1 0 0 [.ref 467, .int a1, .int a2] w (fun r w' => r = some (.int (-1)) ∧ w' = w) := by
  refine PM_of pn_MD_word (le_b rfl) ?_
  show PW _ _ _ _ _ _ (0, [(0, .ref 467), (1, .int a1), (2, .int a2)], [], w)
  refine P_aload_n d_MD_word_0 rfl ?_
  refine P_iconst (v := 0) d_MD_word_1 (by decide) ?_
  refine P_putS (i := 0) d_MD_word_2 ok_Model (by decide) rfl L_MD_74 (fa hM 18 rfl) (fun _ => rfl) (fun _ => rfl) rfl ?_
  refine P_aload_n d_MD_word_5 rfl ?_
  refine P_iload_n d_MD_word_6 rfl ?_
  refine P_callV (M := M_MD_word) (pc := 7) (as := [.int a1]) (b := 467) d_MD_word_7 co_MD_isMap ok_Model (fa hM 18 rfl) L_MD_241 im_MD_isMap se_MD_isMap (z_MD_isMap hM a1) rfl ⟨by decide, by decide⟩ ⟨by decide, by decide⟩ (by decide) ?_ _ rfl
  rintro _ _ ⟨rfl, rfl⟩
  show PW _ _ _ _ _ _ (10, _, [.int 0], _)
  refine P_if_eq 18 d_MD_word_10 (by decide) (fun _ => ?_) (fun h => absurd (by decide) h)
  refine P_iconst (v := (-1)) d_MD_word_18 (by decide) ?_
  exact P_iret d_MD_word_19 rfl (le_b rfl) (le_b rfl) ⟨rfl, rfl⟩
theorem z_CM_leads {G : pG} {w : pW} (hC : Has cfL w.2) (a1 a2 a3 : Int32) : PM G M_CM_leads 1 0 0 [.ref 0, .int a1, .int a2, .int a3] w (fun r w' => r = some (.int (-1)) ∧ w' = w) := by
  refine PM_of pn_CM_leads (le_b rfl) ?_
  show PW _ _ _ _ _ _ (0, [(0, .ref 0), (1, .int a1), (2, .int a2), (3, .int a3)], [], w)
  refine P_aload_n d_CM_leads_0 rfl ?_
  refine P_getf (i := 0) d_CM_leads_1 ok_CM (by decide) L_CM_12 (fa hC 28 rfl) rfl ?_
  refine P_iload_n d_CM_leads_4 rfl ?_
  refine P_callV (M := M_CM_leads) (pc := 5) (as := [.int a1]) (b := 1) d_CM_leads_5 co_Plane_hasPoint ok_Plane (fa hC 29 rfl) L_CM_160 im_Plane_hasPoint se_Plane_hasPoint (z_Plane_hasPoint hC a1) rfl ⟨by decide, by decide⟩ ⟨by decide, by decide⟩ (by decide) ?_ _ rfl
  rintro _ _ ⟨rfl, rfl⟩
  show PW _ _ _ _ _ _ (8, _, [.int 0], _)
  refine P_if_eq 32 d_CM_leads_8 (by decide) (fun _ => ?_) (fun h => absurd (by decide) h)
  refine P_iconst (v := (-1)) d_CM_leads_32 (by decide) ?_
  exact P_iret d_CM_leads_33 rfl (le_b rfl) (le_b rfl) ⟨rfl, rfl⟩
theorem z_MD_leads {G : pG} {w : pW} (hM : Has mfL w.2) (a1 a2 a3 : Int32) : PM G M_MD_leads 1 0 0 [.ref 467, .int a1, .int a2, .int a3] w (fun r w' => r = some (.int (-1)) ∧ w' = w) := by
  refine PM_of pn_MD_leads (le_b rfl) ?_
  show PW _ _ _ _ _ _ (0, [(0, .ref 467), (1, .int a1), (2, .int a2), (3, .int a3)], [], w)
  refine P_aload_n d_MD_leads_0 rfl ?_
  refine P_iconst (v := 0) d_MD_leads_1 (by decide) ?_
  refine P_putS (i := 0) d_MD_leads_2 ok_Model (by decide) rfl L_MD_74 (fa hM 18 rfl) (fun _ => rfl) (fun _ => rfl) rfl ?_
  refine P_aload_n d_MD_leads_5 rfl ?_
  refine P_iload_n d_MD_leads_6 rfl ?_
  refine P_callV (M := M_MD_leads) (pc := 7) (as := [.int a1]) (b := 467) d_MD_leads_7 co_MD_isPoint ok_Model (fa hM 18 rfl) L_MD_247 im_MD_isPoint se_MD_isPoint (z_MD_isPoint hM a1) rfl ⟨by decide, by decide⟩ ⟨by decide, by decide⟩ (by decide) ?_ _ rfl
  rintro _ _ ⟨rfl, rfl⟩
  show PW _ _ _ _ _ _ (10, _, [.int 0], _)
  refine P_if_eq 31 d_MD_leads_10 (by decide) (fun _ => ?_) (fun h => absurd (by decide) h)
  refine P_iconst (v := (-1)) d_MD_leads_31 (by decide) ?_
  exact P_iret d_MD_leads_32 rfl (le_b rfl) (le_b rfl) ⟨rfl, rfl⟩
theorem z_CM_pull {G : pG} {w : pW} (hC : Has cfL w.2) (a1 a2 a3 a4 a5 : Int32) : PM G M_CM_pull 1 0 0 [.ref 0, .int a1, .int a2, .int a3, .int a4, .int a5] w (fun r w' => r = some (.long (-9223372036854775808)) ∧ w' = w) := by
  refine PM_of pn_CM_pull (le_b rfl) ?_
  show PW _ _ _ _ _ _ (0, [(0, .ref 0), (1, .int a1), (2, .int a2), (3, .int a3), (4, .int a4), (5, .int a5)], [], w)
  refine P_aload_n d_CM_pull_0 rfl ?_
  refine P_getf (i := 0) d_CM_pull_1 ok_CM (by decide) L_CM_12 (fa hC 28 rfl) rfl ?_
  refine P_iload_n d_CM_pull_4 rfl ?_
  refine P_callV (M := M_CM_pull) (pc := 5) (as := [.int a1]) (b := 1) d_CM_pull_5 co_Plane_hasMap ok_Plane (fa hC 29 rfl) L_CM_151 im_Plane_hasMap se_Plane_hasMap (z_Plane_hasMap hC a1) rfl ⟨by decide, by decide⟩ ⟨by decide, by decide⟩ (by decide) ?_ _ rfl
  rintro _ _ ⟨rfl, rfl⟩
  show PW _ _ _ _ _ _ (8, _, [.int 0], _)
  refine P_if_eq 29 d_CM_pull_8 (by decide) (fun _ => ?_) (fun h => absurd (by decide) h)
  refine P_ldc2 (v := (-9223372036854775808)) d_CM_pull_29 L_CM_270 ?_
  exact P_lret d_CM_pull_32 rfl (le_b rfl) (le_b rfl) ⟨rfl, rfl⟩
theorem z_MD_pull {G : pG} {w : pW} (hM : Has mfL w.2) (a1 a2 a3 a4 a5 : Int32) : PM G M_MD_pull 1 0 0 [.ref 467, .int a1, .int a2, .int a3, .int a4, .int a5] w (fun r w' => r = some (.long (-9223372036854775808)) ∧ w' = w) := by
  refine PM_of pn_MD_pull (le_b rfl) ?_
  show PW _ _ _ _ _ _ (0, [(0, .ref 467), (1, .int a1), (2, .int a2), (3, .int a3), (4, .int a4), (5, .int a5)], [], w)
  refine P_aload_n d_MD_pull_0 rfl ?_
  refine P_iconst (v := 0) d_MD_pull_1 (by decide) ?_
  refine P_putS (i := 0) d_MD_pull_2 ok_Model (by decide) rfl L_MD_74 (fa hM 18 rfl) (fun _ => rfl) (fun _ => rfl) rfl ?_
  refine P_aload_n d_MD_pull_5 rfl ?_
  refine P_iload_n d_MD_pull_6 rfl ?_
  refine P_callV (M := M_MD_pull) (pc := 7) (as := [.int a1]) (b := 467) d_MD_pull_7 co_MD_isMap ok_Model (fa hM 18 rfl) L_MD_241 im_MD_isMap se_MD_isMap (z_MD_isMap hM a1) rfl ⟨by decide, by decide⟩ ⟨by decide, by decide⟩ (by decide) ?_ _ rfl
  rintro _ _ ⟨rfl, rfl⟩
  show PW _ _ _ _ _ _ (10, _, [.int 0], _)
  refine P_if_eq 31 d_MD_pull_10 (by decide) (fun _ => ?_) (fun h => absurd (by decide) h)
  refine P_ldc2 (v := (-9223372036854775808)) d_MD_pull_31 L_MD_307 ?_
  exact P_lret d_MD_pull_34 rfl (le_b rfl) (le_b rfl) ⟨rfl, rfl⟩
theorem z_CM_keepsLine {G : pG} {w : pW} (hC : Has cfL w.2) (a1 a2 a3 a4 : Int32) : PM G M_CM_keepsLine 1 0 0 [.ref 0, .int a1, .int a2, .int a3, .int a4] w (fun r w' => r = some (.int (-1)) ∧ w' = w) := by
  refine PM_of pn_CM_keepsLine (le_b rfl) ?_
  show PW _ _ _ _ _ _ (0, [(0, .ref 0), (1, .int a1), (2, .int a2), (3, .int a3), (4, .int a4)], [], w)
  refine P_aload_n d_CM_keepsLine_0 rfl ?_
  refine P_getf (i := 0) d_CM_keepsLine_1 ok_CM (by decide) L_CM_12 (fa hC 28 rfl) rfl ?_
  refine P_iload_n d_CM_keepsLine_4 rfl ?_
  refine P_callV (M := M_CM_keepsLine) (pc := 5) (as := [.int a1]) (b := 1) d_CM_keepsLine_5 co_Plane_hasMap ok_Plane (fa hC 29 rfl) L_CM_151 im_Plane_hasMap se_Plane_hasMap (z_Plane_hasMap hC a1) rfl ⟨by decide, by decide⟩ ⟨by decide, by decide⟩ (by decide) ?_ _ rfl
  rintro _ _ ⟨rfl, rfl⟩
  show PW _ _ _ _ _ _ (8, _, [.int 0], _)
  refine P_if_eq 21 d_CM_keepsLine_8 (by decide) (fun _ => ?_) (fun h => absurd (by decide) h)
  refine P_iconst (v := (-1)) d_CM_keepsLine_21 (by decide) ?_
  exact P_iret d_CM_keepsLine_22 rfl (le_b rfl) (le_b rfl) ⟨rfl, rfl⟩
theorem z_MD_keepsLine {G : pG} {w : pW} (hM : Has mfL w.2) (a1 a2 a3 a4 : Int32) : PM G M_MD_keepsLine 1 0 0 [.ref 467, .int a1, .int a2, .int a3, .int a4] w (fun r w' => r = some (.int (-1)) ∧ w' = w) := by
  refine PM_of pn_MD_keepsLine (le_b rfl) ?_
  show PW _ _ _ _ _ _ (0, [(0, .ref 467), (1, .int a1), (2, .int a2), (3, .int a3), (4, .int a4)], [], w)
  refine P_aload_n d_MD_keepsLine_0 rfl ?_
  refine P_iconst (v := 0) d_MD_keepsLine_1 (by decide) ?_
  refine P_putS (i := 0) d_MD_keepsLine_2 ok_Model (by decide) rfl L_MD_74 (fa hM 18 rfl) (fun _ => rfl) (fun _ => rfl) rfl ?_
  refine P_aload_n d_MD_keepsLine_5 rfl ?_
  refine P_iload_n d_MD_keepsLine_6 rfl ?_
  refine P_callV (M := M_MD_keepsLine) (pc := 7) (as := [.int a1]) (b := 467) d_MD_keepsLine_7 co_MD_isMap ok_Model (fa hM 18 rfl) L_MD_241 im_MD_isMap se_MD_isMap (z_MD_isMap hM a1) rfl ⟨by decide, by decide⟩ ⟨by decide, by decide⟩ (by decide) ?_ _ rfl
  rintro _ _ ⟨rfl, rfl⟩
  show PW _ _ _ _ _ _ (10, _, [.int 0], _)
  refine P_if_eq 23 d_MD_keepsLine_10 (by decide) (fun _ => ?_) (fun h => absurd (by decide) h)
  refine P_iconst (v := (-1)) d_MD_keepsLine_23 (by decide) ?_
  exact P_iret d_MD_keepsLine_24 rfl (le_b rfl) (le_b rfl) ⟨rfl, rfl⟩
theorem z_CM_side {G : pG} {w : pW} (hC : Has cfL w.2) (a1 a2 a3 : Int32) : PM G M_CM_side 1 0 0 [.ref 0, .int a1, .int a2, .int a3] w (fun r w' => r = some (.long (-9223372036854775808)) ∧ w' = w) := by
  refine PM_of pn_CM_side (le_b rfl) ?_
  show PW _ _ _ _ _ _ (0, [(0, .ref 0), (1, .int a1), (2, .int a2), (3, .int a3)], [], w)
  refine P_aload_n d_CM_side_0 rfl ?_
  refine P_getf (i := 0) d_CM_side_1 ok_CM (by decide) L_CM_12 (fa hC 28 rfl) rfl ?_
  refine P_iload_n d_CM_side_4 rfl ?_
  refine P_callV (M := M_CM_side) (pc := 5) (as := [.int a1]) (b := 1) d_CM_side_5 co_Plane_hasQuad ok_Plane (fa hC 29 rfl) L_CM_127 im_Plane_hasQuad se_Plane_hasQuad (z_Plane_hasQuad hC a1) rfl ⟨by decide, by decide⟩ ⟨by decide, by decide⟩ (by decide) ?_ _ rfl
  rintro _ _ ⟨rfl, rfl⟩
  show PW _ _ _ _ _ _ (8, _, [.int 0], _)
  refine P_if_eq 25 d_CM_side_8 (by decide) (fun _ => ?_) (fun h => absurd (by decide) h)
  refine P_ldc2 (v := (-9223372036854775808)) d_CM_side_25 L_CM_270 ?_
  exact P_lret d_CM_side_28 rfl (le_b rfl) (le_b rfl) ⟨rfl, rfl⟩
theorem z_MD_side {G : pG} {w : pW} (hM : Has mfL w.2) (a1 a2 a3 : Int32) : PM G M_MD_side 1 0 0 [.ref 467, .int a1, .int a2, .int a3] w (fun r w' => r = some (.long (-9223372036854775808)) ∧ w' = w) := by
  refine PM_of pn_MD_side (le_b rfl) ?_
  show PW _ _ _ _ _ _ (0, [(0, .ref 467), (1, .int a1), (2, .int a2), (3, .int a3)], [], w)
  refine P_aload_n d_MD_side_0 rfl ?_
  refine P_iconst (v := 0) d_MD_side_1 (by decide) ?_
  refine P_putS (i := 0) d_MD_side_2 ok_Model (by decide) rfl L_MD_74 (fa hM 18 rfl) (fun _ => rfl) (fun _ => rfl) rfl ?_
  refine P_aload_n d_MD_side_5 rfl ?_
  refine P_iload_n d_MD_side_6 rfl ?_
  refine P_callV (M := M_MD_side) (pc := 7) (as := [.int a1]) (b := 467) d_MD_side_7 co_MD_isQuad ok_Model (fa hM 18 rfl) L_MD_238 im_MD_isQuad se_MD_isQuad (z_MD_isQuad hM a1) rfl ⟨by decide, by decide⟩ ⟨by decide, by decide⟩ (by decide) ?_ _ rfl
  rintro _ _ ⟨rfl, rfl⟩
  show PW _ _ _ _ _ _ (10, _, [.int 0], _)
  refine P_if_eq 29 d_MD_side_10 (by decide) (fun _ => ?_) (fun h => absurd (by decide) h)
  refine P_ldc2 (v := (-9223372036854775808)) d_MD_side_29 L_MD_307 ?_
  exact P_lret d_MD_side_32 rfl (le_b rfl) (le_b rfl) ⟨rfl, rfl⟩
theorem z_CM_isFar {G : pG} {w : pW} (hC : Has cfL w.2) (a1 : Int32) : PM G M_CM_isFar 1 0 0 [.ref 0, .int a1] w (fun r w' => r = some (.int 0) ∧ w' = w) := by
  refine PM_of pn_CM_isFar (le_b rfl) ?_
  show PW _ _ _ _ _ _ (0, [(0, .ref 0), (1, .int a1)], [], w)
  refine P_aload_n d_CM_isFar_0 rfl ?_
  refine P_getf (i := 0) d_CM_isFar_1 ok_CM (by decide) L_CM_12 (fa hC 28 rfl) rfl ?_
  refine P_iload_n d_CM_isFar_4 rfl ?_
  refine P_callV (M := M_CM_isFar) (pc := 5) (as := [.int a1]) (b := 1) d_CM_isFar_5 co_Plane_hasPoint ok_Plane (fa hC 29 rfl) L_CM_160 im_Plane_hasPoint se_Plane_hasPoint (z_Plane_hasPoint hC a1) rfl ⟨by decide, by decide⟩ ⟨by decide, by decide⟩ (by decide) ?_ _ rfl
  rintro _ _ ⟨rfl, rfl⟩
  show PW _ _ _ _ _ _ (8, _, [.int 0], _)
  refine P_if_eq 30 d_CM_isFar_8 (by decide) (fun _ => ?_) (fun h => absurd (by decide) h)
  refine P_iconst (v := 0) d_CM_isFar_30 (by decide) ?_
  exact P_zret d_CM_isFar_31 rfl rfl (le_b rfl) (le_b rfl) ⟨rfl, rfl⟩
theorem z_CM_turnOf {G : pG} {w : pW} (hC : Has cfL w.2) (a1 a2 a3 : Int32) : PM G M_CM_turnOf 2 0 0 [.ref 0, .int a1, .int a2, .int a3] w (fun r w' => r = some (.int (-3)) ∧ w' = w) := by
  refine PM_of pn_CM_turnOf (le_b rfl) ?_
  show PW _ _ _ _ _ _ (0, [(0, .ref 0), (1, .int a1), (2, .int a2), (3, .int a3)], [], w)
  refine P_aload_n d_CM_turnOf_0 rfl ?_
  refine P_iload_n d_CM_turnOf_1 rfl ?_
  refine P_callV (M := M_CM_turnOf) (pc := 2) (as := [.int a1]) (b := 0) d_CM_turnOf_2 co_CM_isFar ok_CM (fa hC 28 rfl) L_CM_398 im_CM_isFar se_CM_isFar (z_CM_isFar hC a1) rfl ⟨by decide, by decide⟩ ⟨by decide, by decide⟩ (by decide) ?_ _ rfl
  rintro _ _ ⟨rfl, rfl⟩
  show PW _ _ _ _ _ _ (5, _, [.int 0], _)
  refine P_if_ne 24 d_CM_turnOf_5 (by decide) (fun h => absurd (by decide) h) (fun _ => ?_)
  refine P_aload_n d_CM_turnOf_8 rfl ?_
  refine P_iload_n d_CM_turnOf_9 rfl ?_
  refine P_callV (M := M_CM_turnOf) (pc := 10) (as := [.int a2]) (b := 0) d_CM_turnOf_10 co_CM_isFar ok_CM (fa hC 28 rfl) L_CM_398 im_CM_isFar se_CM_isFar (z_CM_isFar hC a2) rfl ⟨by decide, by decide⟩ ⟨by decide, by decide⟩ (by decide) ?_ _ rfl
  rintro _ _ ⟨rfl, rfl⟩
  show PW _ _ _ _ _ _ (13, _, [.int 0], _)
  refine P_if_ne 24 d_CM_turnOf_13 (by decide) (fun h => absurd (by decide) h) (fun _ => ?_)
  refine P_aload_n d_CM_turnOf_16 rfl ?_
  refine P_iload_n d_CM_turnOf_17 rfl ?_
  refine P_callV (M := M_CM_turnOf) (pc := 18) (as := [.int a3]) (b := 0) d_CM_turnOf_18 co_CM_isFar ok_CM (fa hC 28 rfl) L_CM_398 im_CM_isFar se_CM_isFar (z_CM_isFar hC a3) rfl ⟨by decide, by decide⟩ ⟨by decide, by decide⟩ (by decide) ?_ _ rfl
  rintro _ _ ⟨rfl, rfl⟩
  show PW _ _ _ _ _ _ (21, _, [.int 0], _)
  refine P_if_eq 27 d_CM_turnOf_21 (by decide) (fun _ => ?_) (fun h => absurd (by decide) h)
  refine P_aload_n d_CM_turnOf_27 rfl ?_
  refine P_iload_n d_CM_turnOf_28 rfl ?_
  refine P_iload_n d_CM_turnOf_29 rfl ?_
  refine P_iload_n d_CM_turnOf_30 rfl ?_
  refine P_iload_n d_CM_turnOf_31 rfl ?_
  refine P_callV (M := M_CM_turnOf) (pc := 32) (as := [.int a1, .int a2, .int a3, .int a3]) (b := 0) d_CM_turnOf_32 co_CM_arePoints ok_CM (fa hC 28 rfl) L_CM_330 im_CM_arePoints se_CM_arePoints (z_CM_arePoints hC a1 a2 a3 a3) rfl ⟨by decide, by decide⟩ ⟨by decide, by decide⟩ (by decide) ?_ _ rfl
  rintro _ _ ⟨rfl, rfl⟩
  show PW _ _ _ _ _ _ (35, _, [.int 0], _)
  refine P_if_ne 41 d_CM_turnOf_35 (by decide) (fun h => absurd (by decide) h) (fun _ => ?_)
  refine P_bipush (v := (-3)) d_CM_turnOf_38 (by decide) ?_
  exact P_iret d_CM_turnOf_40 rfl (le_b rfl) (le_b rfl) ⟨rfl, rfl⟩
theorem z_MD_turnOf {G : pG} {w : pW} (hM : Has mfL w.2) (a1 a2 a3 : Int32) : PM G M_MD_turnOf 1 0 0 [.ref 467, .int a1, .int a2, .int a3] w (fun r w' => r = some (.int (-3)) ∧ w' = w) := by
  refine PM_of pn_MD_turnOf (le_b rfl) ?_
  show PW _ _ _ _ _ _ (0, [(0, .ref 467), (1, .int a1), (2, .int a2), (3, .int a3)], [], w)
  refine P_aload_n d_MD_turnOf_0 rfl ?_
  refine P_iconst (v := 0) d_MD_turnOf_1 (by decide) ?_
  refine P_putS (i := 0) d_MD_turnOf_2 ok_Model (by decide) rfl L_MD_74 (fa hM 18 rfl) (fun _ => rfl) (fun _ => rfl) rfl ?_
  refine P_aload_n d_MD_turnOf_5 rfl ?_
  refine P_iload_n d_MD_turnOf_6 rfl ?_
  refine P_callV (M := M_MD_turnOf) (pc := 7) (as := [.int a1]) (b := 467) d_MD_turnOf_7 co_MD_isPoint ok_Model (fa hM 18 rfl) L_MD_247 im_MD_isPoint se_MD_isPoint (z_MD_isPoint hM a1) rfl ⟨by decide, by decide⟩ ⟨by decide, by decide⟩ (by decide) ?_ _ rfl
  rintro _ _ ⟨rfl, rfl⟩
  show PW _ _ _ _ _ _ (10, _, [.int 0], _)
  refine P_if_eq 29 d_MD_turnOf_10 (by decide) (fun _ => ?_) (fun h => absurd (by decide) h)
  refine P_bipush (v := (-3)) d_MD_turnOf_29 (by decide) ?_
  exact P_iret d_MD_turnOf_31 rfl (le_b rfl) (le_b rfl) ⟨rfl, rfl⟩
theorem z_CM_gap {G : pG} {w : pW} (hC : Has cfL w.2) (a1 a2 a3 : Int32) : PM G M_CM_gap 1 0 0 [.ref 0, .int a1, .int a2, .int a3] w (fun r w' => r = some (.long (-9223372036854775808)) ∧ w' = w) := by
  refine PM_of pn_CM_gap (le_b rfl) ?_
  show PW _ _ _ _ _ _ (0, [(0, .ref 0), (1, .int a1), (2, .int a2), (3, .int a3)], [], w)
  refine P_aload_n d_CM_gap_0 rfl ?_
  refine P_getf (i := 0) d_CM_gap_1 ok_CM (by decide) L_CM_12 (fa hC 28 rfl) rfl ?_
  refine P_iload_n d_CM_gap_4 rfl ?_
  refine P_callV (M := M_CM_gap) (pc := 5) (as := [.int a1]) (b := 1) d_CM_gap_5 co_Plane_hasPoint ok_Plane (fa hC 29 rfl) L_CM_160 im_Plane_hasPoint se_Plane_hasPoint (z_Plane_hasPoint hC a1) rfl ⟨by decide, by decide⟩ ⟨by decide, by decide⟩ (by decide) ?_ _ rfl
  rintro _ _ ⟨rfl, rfl⟩
  show PW _ _ _ _ _ _ (8, _, [.int 0], _)
  refine P_if_eq 29 d_CM_gap_8 (by decide) (fun _ => ?_) (fun h => absurd (by decide) h)
  refine P_ldc2 (v := (-9223372036854775808)) d_CM_gap_29 L_CM_270 ?_
  exact P_lret d_CM_gap_32 rfl (le_b rfl) (le_b rfl) ⟨rfl, rfl⟩
theorem z_MD_gap {G : pG} {w : pW} (hM : Has mfL w.2) (a1 a2 a3 : Int32) : PM G M_MD_gap 1 0 0 [.ref 467, .int a1, .int a2, .int a3] w (fun r w' => r = some (.long (-9223372036854775808)) ∧ w' = w) := by
  refine PM_of pn_MD_gap (le_b rfl) ?_
  show PW _ _ _ _ _ _ (0, [(0, .ref 467), (1, .int a1), (2, .int a2), (3, .int a3)], [], w)
  refine P_aload_n d_MD_gap_0 rfl ?_
  refine P_iconst (v := 0) d_MD_gap_1 (by decide) ?_
  refine P_putS (i := 0) d_MD_gap_2 ok_Model (by decide) rfl L_MD_74 (fa hM 18 rfl) (fun _ => rfl) (fun _ => rfl) rfl ?_
  refine P_aload_n d_MD_gap_5 rfl ?_
  refine P_iload_n d_MD_gap_6 rfl ?_
  refine P_callV (M := M_MD_gap) (pc := 7) (as := [.int a1]) (b := 467) d_MD_gap_7 co_MD_isPoint ok_Model (fa hM 18 rfl) L_MD_247 im_MD_isPoint se_MD_isPoint (z_MD_isPoint hM a1) rfl ⟨by decide, by decide⟩ ⟨by decide, by decide⟩ (by decide) ?_ _ rfl
  rintro _ _ ⟨rfl, rfl⟩
  show PW _ _ _ _ _ _ (10, _, [.int 0], _)
  refine P_if_eq 30 d_MD_gap_10 (by decide) (fun _ => ?_) (fun h => absurd (by decide) h)
  refine P_ldc2 (v := (-9223372036854775808)) d_MD_gap_30 L_MD_307 ?_
  exact P_lret d_MD_gap_33 rfl (le_b rfl) (le_b rfl) ⟨rfl, rfl⟩
theorem z_CM_middle {G : pG} {w : pW} (hC : Has cfL w.2) (a1 a2 a3 : Int32) : PM G M_CM_middle 1 0 0 [.ref 0, .int a1, .int a2, .int a3] w (fun r w' => r = some (.long (-9223372036854775808)) ∧ w' = w) := by
  refine PM_of pn_CM_middle (le_b rfl) ?_
  show PW _ _ _ _ _ _ (0, [(0, .ref 0), (1, .int a1), (2, .int a2), (3, .int a3)], [], w)
  refine P_aload_n d_CM_middle_0 rfl ?_
  refine P_getf (i := 0) d_CM_middle_1 ok_CM (by decide) L_CM_12 (fa hC 28 rfl) rfl ?_
  refine P_iload_n d_CM_middle_4 rfl ?_
  refine P_callV (M := M_CM_middle) (pc := 5) (as := [.int a1]) (b := 1) d_CM_middle_5 co_Plane_hasPoint ok_Plane (fa hC 29 rfl) L_CM_160 im_Plane_hasPoint se_Plane_hasPoint (z_Plane_hasPoint hC a1) rfl ⟨by decide, by decide⟩ ⟨by decide, by decide⟩ (by decide) ?_ _ rfl
  rintro _ _ ⟨rfl, rfl⟩
  show PW _ _ _ _ _ _ (8, _, [.int 0], _)
  refine P_if_eq 29 d_CM_middle_8 (by decide) (fun _ => ?_) (fun h => absurd (by decide) h)
  refine P_ldc2 (v := (-9223372036854775808)) d_CM_middle_29 L_CM_270 ?_
  exact P_lret d_CM_middle_32 rfl (le_b rfl) (le_b rfl) ⟨rfl, rfl⟩
theorem z_MD_middle {G : pG} {w : pW} (hM : Has mfL w.2) (a1 a2 a3 : Int32) : PM G M_MD_middle 1 0 0 [.ref 467, .int a1, .int a2, .int a3] w (fun r w' => r = some (.long (-9223372036854775808)) ∧ w' = w) := by
  refine PM_of pn_MD_middle (le_b rfl) ?_
  show PW _ _ _ _ _ _ (0, [(0, .ref 467), (1, .int a1), (2, .int a2), (3, .int a3)], [], w)
  refine P_aload_n d_MD_middle_0 rfl ?_
  refine P_iconst (v := 0) d_MD_middle_1 (by decide) ?_
  refine P_putS (i := 0) d_MD_middle_2 ok_Model (by decide) rfl L_MD_74 (fa hM 18 rfl) (fun _ => rfl) (fun _ => rfl) rfl ?_
  refine P_aload_n d_MD_middle_5 rfl ?_
  refine P_iload_n d_MD_middle_6 rfl ?_
  refine P_callV (M := M_MD_middle) (pc := 7) (as := [.int a1]) (b := 467) d_MD_middle_7 co_MD_isPoint ok_Model (fa hM 18 rfl) L_MD_247 im_MD_isPoint se_MD_isPoint (z_MD_isPoint hM a1) rfl ⟨by decide, by decide⟩ ⟨by decide, by decide⟩ (by decide) ?_ _ rfl
  rintro _ _ ⟨rfl, rfl⟩
  show PW _ _ _ _ _ _ (10, _, [.int 0], _)
  refine P_if_eq 28 d_MD_middle_10 (by decide) (fun _ => ?_) (fun h => absurd (by decide) h)
  refine P_ldc2 (v := (-9223372036854775808)) d_MD_middle_28 L_MD_307 ?_
  exact P_lret d_MD_middle_31 rfl (le_b rfl) (le_b rfl) ⟨rfl, rfl⟩
theorem z_CM_partner {G : pG} {w : pW} (hC : Has cfL w.2) (a1 : Int32) : PM G M_CM_partner 1 0 0 [.ref 0, .int a1] w (fun r w' => r = some (.int (-1)) ∧ w' = w) := by
  refine PM_of pn_CM_partner (le_b rfl) ?_
  show PW _ _ _ _ _ _ (0, [(0, .ref 0), (1, .int a1)], [], w)
  refine P_aload_n d_CM_partner_0 rfl ?_
  refine P_getf (i := 0) d_CM_partner_1 ok_CM (by decide) L_CM_12 (fa hC 28 rfl) rfl ?_
  refine P_iload_n d_CM_partner_4 rfl ?_
  refine P_callV (M := M_CM_partner) (pc := 5) (as := [.int a1]) (b := 1) d_CM_partner_5 co_Plane_hasMap ok_Plane (fa hC 29 rfl) L_CM_151 im_Plane_hasMap se_Plane_hasMap (z_Plane_hasMap hC a1) rfl ⟨by decide, by decide⟩ ⟨by decide, by decide⟩ (by decide) ?_ _ rfl
  rintro _ _ ⟨rfl, rfl⟩
  show PW _ _ _ _ _ _ (8, _, [.int 0], _)
  refine P_if_ne 13 d_CM_partner_8 (by decide) (fun h => absurd (by decide) h) (fun _ => ?_)
  refine P_iconst (v := (-1)) d_CM_partner_11 (by decide) ?_
  exact P_iret d_CM_partner_12 rfl (le_b rfl) (le_b rfl) ⟨rfl, rfl⟩
theorem z_MD_partner {G : pG} {w : pW} (hM : Has mfL w.2) (a1 : Int32) : PM G M_MD_partner 1 0 0 [.ref 467, .int a1] w (fun r w' => r = some (.int (-1)) ∧ w' = w) := by
  refine PM_of pn_MD_partner (le_b rfl) ?_
  show PW _ _ _ _ _ _ (0, [(0, .ref 467), (1, .int a1)], [], w)
  refine P_aload_n d_MD_partner_0 rfl ?_
  refine P_iconst (v := 0) d_MD_partner_1 (by decide) ?_
  refine P_putS (i := 0) d_MD_partner_2 ok_Model (by decide) rfl L_MD_74 (fa hM 18 rfl) (fun _ => rfl) (fun _ => rfl) rfl ?_
  refine P_aload_n d_MD_partner_5 rfl ?_
  refine P_iload_n d_MD_partner_6 rfl ?_
  refine P_callV (M := M_MD_partner) (pc := 7) (as := [.int a1]) (b := 467) d_MD_partner_7 co_MD_isMap ok_Model (fa hM 18 rfl) L_MD_241 im_MD_isMap se_MD_isMap (z_MD_isMap hM a1) rfl ⟨by decide, by decide⟩ ⟨by decide, by decide⟩ (by decide) ?_ _ rfl
  rintro _ _ ⟨rfl, rfl⟩
  show PW _ _ _ _ _ _ (10, _, [.int 0], _)
  refine P_if_ne 15 d_MD_partner_10 (by decide) (fun h => absurd (by decide) h) (fun _ => ?_)
  refine P_iconst (v := (-1)) d_MD_partner_13 (by decide) ?_
  exact P_iret d_MD_partner_14 rfl (le_b rfl) (le_b rfl) ⟨rfl, rfl⟩
theorem z_CM_cornerBy {G : pG} {w : pW} (hC : Has cfL w.2) (a1 a2 a3 a4 : Int32) : PM G M_CM_cornerBy 1 0 0 [.ref 0, .int a1, .int a2, .int a3, .int a4] w (fun r w' => r = some (.long (-9223372036854775808)) ∧ w' = w) := by
  refine PM_of pn_CM_cornerBy (le_b rfl) ?_
  show PW _ _ _ _ _ _ (0, [(0, .ref 0), (1, .int a1), (2, .int a2), (3, .int a3), (4, .int a4)], [], w)
  refine P_aload_n d_CM_cornerBy_0 rfl ?_
  refine P_getf (i := 0) d_CM_cornerBy_1 ok_CM (by decide) L_CM_12 (fa hC 28 rfl) rfl ?_
  refine P_iload_n d_CM_cornerBy_4 rfl ?_
  refine P_callV (M := M_CM_cornerBy) (pc := 5) (as := [.int a1]) (b := 1) d_CM_cornerBy_5 co_Plane_hasMap ok_Plane (fa hC 29 rfl) L_CM_151 im_Plane_hasMap se_Plane_hasMap (z_Plane_hasMap hC a1) rfl ⟨by decide, by decide⟩ ⟨by decide, by decide⟩ (by decide) ?_ _ rfl
  rintro _ _ ⟨rfl, rfl⟩
  show PW _ _ _ _ _ _ (8, _, [.int 0], _)
  refine P_if_eq 37 d_CM_cornerBy_8 (by decide) (fun _ => ?_) (fun h => absurd (by decide) h)
  refine P_ldc2 (v := (-9223372036854775808)) d_CM_cornerBy_37 L_CM_270 ?_
  exact P_lret d_CM_cornerBy_40 rfl (le_b rfl) (le_b rfl) ⟨rfl, rfl⟩
theorem z_MD_cornerBy {G : pG} {w : pW} (hM : Has mfL w.2) (a1 a2 a3 a4 : Int32) : PM G M_MD_cornerBy 1 0 0 [.ref 467, .int a1, .int a2, .int a3, .int a4] w (fun r w' => r = some (.long (-9223372036854775808)) ∧ w' = w) := by
  refine PM_of pn_MD_cornerBy (le_b rfl) ?_
  show PW _ _ _ _ _ _ (0, [(0, .ref 467), (1, .int a1), (2, .int a2), (3, .int a3), (4, .int a4)], [], w)
  refine P_aload_n d_MD_cornerBy_0 rfl ?_
  refine P_iconst (v := 0) d_MD_cornerBy_1 (by decide) ?_
  refine P_putS (i := 0) d_MD_cornerBy_2 ok_Model (by decide) rfl L_MD_74 (fa hM 18 rfl) (fun _ => rfl) (fun _ => rfl) rfl ?_
  refine P_aload_n d_MD_cornerBy_5 rfl ?_
  refine P_iload_n d_MD_cornerBy_6 rfl ?_
  refine P_callV (M := M_MD_cornerBy) (pc := 7) (as := [.int a1]) (b := 467) d_MD_cornerBy_7 co_MD_isMap ok_Model (fa hM 18 rfl) L_MD_241 im_MD_isMap se_MD_isMap (z_MD_isMap hM a1) rfl ⟨by decide, by decide⟩ ⟨by decide, by decide⟩ (by decide) ?_ _ rfl
  rintro _ _ ⟨rfl, rfl⟩
  show PW _ _ _ _ _ _ (10, _, [.int 0], _)
  refine P_if_eq 38 d_MD_cornerBy_10 (by decide) (fun _ => ?_) (fun h => absurd (by decide) h)
  refine P_ldc2 (v := (-9223372036854775808)) d_MD_cornerBy_38 L_MD_307 ?_
  exact P_lret d_MD_cornerBy_41 rfl (le_b rfl) (le_b rfl) ⟨rfl, rfl⟩
theorem z_CM_scale {G : pG} {w : pW} (hC : Has cfL w.2) (a1 a2 : Int32) : PM G M_CM_scale 1 0 0 [.ref 0, .int a1, .int a2] w (fun r w' => r = some (.long (-9223372036854775808)) ∧ w' = w) := by
  refine PM_of pn_CM_scale (le_b rfl) ?_
  show PW _ _ _ _ _ _ (0, [(0, .ref 0), (1, .int a1), (2, .int a2)], [], w)
  refine P_aload_n d_CM_scale_0 rfl ?_
  refine P_getf (i := 0) d_CM_scale_1 ok_CM (by decide) L_CM_12 (fa hC 28 rfl) rfl ?_
  refine P_iload_n d_CM_scale_4 rfl ?_
  refine P_callV (M := M_CM_scale) (pc := 5) (as := [.int a1]) (b := 1) d_CM_scale_5 co_Plane_hasMap ok_Plane (fa hC 29 rfl) L_CM_151 im_Plane_hasMap se_Plane_hasMap (z_Plane_hasMap hC a1) rfl ⟨by decide, by decide⟩ ⟨by decide, by decide⟩ (by decide) ?_ _ rfl
  rintro _ _ ⟨rfl, rfl⟩
  show PW _ _ _ _ _ _ (8, _, [.int 0], _)
  refine P_if_eq 18 d_CM_scale_8 (by decide) (fun _ => ?_) (fun h => absurd (by decide) h)
  refine P_ldc2 (v := (-9223372036854775808)) d_CM_scale_18 L_CM_270 ?_
  exact P_lret d_CM_scale_21 rfl (le_b rfl) (le_b rfl) ⟨rfl, rfl⟩
theorem z_MD_scale {G : pG} {w : pW} (hM : Has mfL w.2) (a1 a2 : Int32) : PM G M_MD_scale 1 0 0 [.ref 467, .int a1, .int a2] w (fun r w' => r = some (.long (-9223372036854775808)) ∧ w' = w) := by
  refine PM_of pn_MD_scale (le_b rfl) ?_
  show PW _ _ _ _ _ _ (0, [(0, .ref 467), (1, .int a1), (2, .int a2)], [], w)
  refine P_aload_n d_MD_scale_0 rfl ?_
  refine P_iconst (v := 0) d_MD_scale_1 (by decide) ?_
  refine P_putS (i := 0) d_MD_scale_2 ok_Model (by decide) rfl L_MD_74 (fa hM 18 rfl) (fun _ => rfl) (fun _ => rfl) rfl ?_
  refine P_aload_n d_MD_scale_5 rfl ?_
  refine P_iload_n d_MD_scale_6 rfl ?_
  refine P_callV (M := M_MD_scale) (pc := 7) (as := [.int a1]) (b := 467) d_MD_scale_7 co_MD_isMap ok_Model (fa hM 18 rfl) L_MD_241 im_MD_isMap se_MD_isMap (z_MD_isMap hM a1) rfl ⟨by decide, by decide⟩ ⟨by decide, by decide⟩ (by decide) ?_ _ rfl
  rintro _ _ ⟨rfl, rfl⟩
  show PW _ _ _ _ _ _ (10, _, [.int 0], _)
  refine P_if_eq 22 d_MD_scale_10 (by decide) (fun _ => ?_) (fun h => absurd (by decide) h)
  refine P_ldc2 (v := (-9223372036854775808)) d_MD_scale_22 L_MD_307 ?_
  exact P_lret d_MD_scale_25 rfl (le_b rfl) (le_b rfl) ⟨rfl, rfl⟩
theorem z_CM_likeness {G : pG} {w : pW} (hC : Has cfL w.2) (a1 a2 a3 : Int32) : PM G M_CM_likeness 1 0 0 [.ref 0, .int a1, .int a2, .int a3] w (fun r w' => r = some (.int (-1)) ∧ w' = w) := by
  refine PM_of pn_CM_likeness (le_b rfl) ?_
  show PW _ _ _ _ _ _ (0, [(0, .ref 0), (1, .int a1), (2, .int a2), (3, .int a3)], [], w)
  refine P_aload_n d_CM_likeness_0 rfl ?_
  refine P_getf (i := 0) d_CM_likeness_1 ok_CM (by decide) L_CM_12 (fa hC 28 rfl) rfl ?_
  refine P_iload_n d_CM_likeness_4 rfl ?_
  refine P_callV (M := M_CM_likeness) (pc := 5) (as := [.int a1]) (b := 1) d_CM_likeness_5 co_Plane_hasQuad ok_Plane (fa hC 29 rfl) L_CM_127 im_Plane_hasQuad se_Plane_hasQuad (z_Plane_hasQuad hC a1) rfl ⟨by decide, by decide⟩ ⟨by decide, by decide⟩ (by decide) ?_ _ rfl
  rintro _ _ ⟨rfl, rfl⟩
  show PW _ _ _ _ _ _ (8, _, [.int 0], _)
  refine P_if_eq 29 d_CM_likeness_8 (by decide) (fun _ => ?_) (fun h => absurd (by decide) h)
  refine P_iconst (v := (-1)) d_CM_likeness_29 (by decide) ?_
  exact P_iret d_CM_likeness_30 rfl (le_b rfl) (le_b rfl) ⟨rfl, rfl⟩
theorem z_MD_likeness {G : pG} {w : pW} (hM : Has mfL w.2) (a1 a2 a3 : Int32) : PM G M_MD_likeness 1 0 0 [.ref 467, .int a1, .int a2, .int a3] w (fun r w' => r = some (.int (-1)) ∧ w' = w) := by
  refine PM_of pn_MD_likeness (le_b rfl) ?_
  show PW _ _ _ _ _ _ (0, [(0, .ref 467), (1, .int a1), (2, .int a2), (3, .int a3)], [], w)
  refine P_aload_n d_MD_likeness_0 rfl ?_
  refine P_iconst (v := 0) d_MD_likeness_1 (by decide) ?_
  refine P_putS (i := 0) d_MD_likeness_2 ok_Model (by decide) rfl L_MD_74 (fa hM 18 rfl) (fun _ => rfl) (fun _ => rfl) rfl ?_
  refine P_aload_n d_MD_likeness_5 rfl ?_
  refine P_iload_n d_MD_likeness_6 rfl ?_
  refine P_callV (M := M_MD_likeness) (pc := 7) (as := [.int a1]) (b := 467) d_MD_likeness_7 co_MD_isQuad ok_Model (fa hM 18 rfl) L_MD_238 im_MD_isQuad se_MD_isQuad (z_MD_isQuad hM a1) rfl ⟨by decide, by decide⟩ ⟨by decide, by decide⟩ (by decide) ?_ _ rfl
  rintro _ _ ⟨rfl, rfl⟩
  show PW _ _ _ _ _ _ (10, _, [.int 0], _)
  refine P_if_eq 30 d_MD_likeness_10 (by decide) (fun _ => ?_) (fun h => absurd (by decide) h)
  refine P_iconst (v := (-1)) d_MD_likeness_30 (by decide) ?_
  exact P_iret d_MD_likeness_31 rfl (le_b rfl) (le_b rfl) ⟨rfl, rfl⟩
theorem z_CM_hits {G : pG} {w : pW} (hC : Has cfL w.2) (a1 a2 a3 : Int32) : PM G M_CM_hits 1 0 0 [.ref 0, .int a1, .int a2, .int a3] w (fun r w' => r = some (.int (-1)) ∧ w' = w) := by
  refine PM_of pn_CM_hits (le_b rfl) ?_
  show PW _ _ _ _ _ _ (0, [(0, .ref 0), (1, .int a1), (2, .int a2), (3, .int a3)], [], w)
  refine P_aload_n d_CM_hits_0 rfl ?_
  refine P_getf (i := 0) d_CM_hits_1 ok_CM (by decide) L_CM_12 (fa hC 28 rfl) rfl ?_
  refine P_iload_n d_CM_hits_4 rfl ?_
  refine P_callV (M := M_CM_hits) (pc := 5) (as := [.int a1]) (b := 1) d_CM_hits_5 co_Plane_hasMap ok_Plane (fa hC 29 rfl) L_CM_151 im_Plane_hasMap se_Plane_hasMap (z_Plane_hasMap hC a1) rfl ⟨by decide, by decide⟩ ⟨by decide, by decide⟩ (by decide) ?_ _ rfl
  rintro _ _ ⟨rfl, rfl⟩
  show PW _ _ _ _ _ _ (8, _, [.int 0], _)
  refine P_if_eq 33 d_CM_hits_8 (by decide) (fun _ => ?_) (fun h => absurd (by decide) h)
  refine P_iconst (v := (-1)) d_CM_hits_33 (by decide) ?_
  exact P_iret d_CM_hits_34 rfl (le_b rfl) (le_b rfl) ⟨rfl, rfl⟩
theorem z_MD_hits {G : pG} {w : pW} (hM : Has mfL w.2) (a1 a2 a3 : Int32) : PM G M_MD_hits 1 0 0 [.ref 467, .int a1, .int a2, .int a3] w (fun r w' => r = some (.int (-1)) ∧ w' = w) := by
  refine PM_of pn_MD_hits (le_b rfl) ?_
  show PW _ _ _ _ _ _ (0, [(0, .ref 467), (1, .int a1), (2, .int a2), (3, .int a3)], [], w)
  refine P_aload_n d_MD_hits_0 rfl ?_
  refine P_iconst (v := 0) d_MD_hits_1 (by decide) ?_
  refine P_putS (i := 0) d_MD_hits_2 ok_Model (by decide) rfl L_MD_74 (fa hM 18 rfl) (fun _ => rfl) (fun _ => rfl) rfl ?_
  refine P_aload_n d_MD_hits_5 rfl ?_
  refine P_iload_n d_MD_hits_6 rfl ?_
  refine P_callV (M := M_MD_hits) (pc := 7) (as := [.int a1]) (b := 467) d_MD_hits_7 co_MD_isMap ok_Model (fa hM 18 rfl) L_MD_241 im_MD_isMap se_MD_isMap (z_MD_isMap hM a1) rfl ⟨by decide, by decide⟩ ⟨by decide, by decide⟩ (by decide) ?_ _ rfl
  rintro _ _ ⟨rfl, rfl⟩
  show PW _ _ _ _ _ _ (10, _, [.int 0], _)
  refine P_if_eq 39 d_MD_hits_10 (by decide) (fun _ => ?_) (fun h => absurd (by decide) h)
  refine P_iconst (v := (-1)) d_MD_hits_39 (by decide) ?_
  exact P_iret d_MD_hits_40 rfl (le_b rfl) (le_b rfl) ⟨rfl, rfl⟩
theorem z_CM_goesTo {G : pG} {w : pW} (hC : Has cfL w.2) (a1 a2 : Int32) : PM G M_CM_goesTo 1 0 0 [.ref 0, .int a1, .int a2] w (fun r w' => r = some (.int (-1)) ∧ w' = w) := by
  refine PM_of pn_CM_goesTo (le_b rfl) ?_
  show PW _ _ _ _ _ _ (0, [(0, .ref 0), (1, .int a1), (2, .int a2)], [], w)
  refine P_aload_n d_CM_goesTo_0 rfl ?_
  refine P_getf (i := 0) d_CM_goesTo_1 ok_CM (by decide) L_CM_12 (fa hC 28 rfl) rfl ?_
  refine P_iload_n d_CM_goesTo_4 rfl ?_
  refine P_callV (M := M_CM_goesTo) (pc := 5) (as := [.int a1]) (b := 1) d_CM_goesTo_5 co_Plane_hasMap ok_Plane (fa hC 29 rfl) L_CM_151 im_Plane_hasMap se_Plane_hasMap (z_Plane_hasMap hC a1) rfl ⟨by decide, by decide⟩ ⟨by decide, by decide⟩ (by decide) ?_ _ rfl
  rintro _ _ ⟨rfl, rfl⟩
  show PW _ _ _ _ _ _ (8, _, [.int 0], _)
  refine P_if_eq 22 d_CM_goesTo_8 (by decide) (fun _ => ?_) (fun h => absurd (by decide) h)
  refine P_iconst (v := (-1)) d_CM_goesTo_22 (by decide) ?_
  exact P_iret d_CM_goesTo_23 rfl (le_b rfl) (le_b rfl) ⟨rfl, rfl⟩
theorem z_MD_goesTo {G : pG} {w : pW} (hM : Has mfL w.2) (a1 a2 : Int32) : PM G M_MD_goesTo 1 0 0 [.ref 467, .int a1, .int a2] w (fun r w' => r = some (.int (-1)) ∧ w' = w) := by
  refine PM_of pn_MD_goesTo (le_b rfl) ?_
  show PW _ _ _ _ _ _ (0, [(0, .ref 467), (1, .int a1), (2, .int a2)], [], w)
  refine P_aload_n d_MD_goesTo_0 rfl ?_
  refine P_iconst (v := 0) d_MD_goesTo_1 (by decide) ?_
  refine P_putS (i := 0) d_MD_goesTo_2 ok_Model (by decide) rfl L_MD_74 (fa hM 18 rfl) (fun _ => rfl) (fun _ => rfl) rfl ?_
  refine P_aload_n d_MD_goesTo_5 rfl ?_
  refine P_iload_n d_MD_goesTo_6 rfl ?_
  refine P_callV (M := M_MD_goesTo) (pc := 7) (as := [.int a1]) (b := 467) d_MD_goesTo_7 co_MD_isMap ok_Model (fa hM 18 rfl) L_MD_241 im_MD_isMap se_MD_isMap (z_MD_isMap hM a1) rfl ⟨by decide, by decide⟩ ⟨by decide, by decide⟩ (by decide) ?_ _ rfl
  rintro _ _ ⟨rfl, rfl⟩
  show PW _ _ _ _ _ _ (10, _, [.int 0], _)
  refine P_if_eq 21 d_MD_goesTo_10 (by decide) (fun _ => ?_) (fun h => absurd (by decide) h)
  refine P_iconst (v := (-1)) d_MD_goesTo_21 (by decide) ?_
  exact P_iret d_MD_goesTo_22 rfl (le_b rfl) (le_b rfl) ⟨rfl, rfl⟩
theorem z_CM_farthest {G : pG} {w : pW} (hC : Has cfL w.2) (a1 : Int32) : PM G M_CM_farthest 1 0 0 [.ref 0, .int a1] w (fun r w' => r = some (.long (-9223372036854775808)) ∧ w' = w) := by
  refine PM_of pn_CM_farthest (le_b rfl) ?_
  show PW _ _ _ _ _ _ (0, [(0, .ref 0), (1, .int a1)], [], w)
  refine P_aload_n d_CM_farthest_0 rfl ?_
  refine P_getf (i := 0) d_CM_farthest_1 ok_CM (by decide) L_CM_12 (fa hC 28 rfl) rfl ?_
  refine P_iload_n d_CM_farthest_4 rfl ?_
  refine P_callV (M := M_CM_farthest) (pc := 5) (as := [.int a1]) (b := 1) d_CM_farthest_5 co_Plane_hasMap ok_Plane (fa hC 29 rfl) L_CM_151 im_Plane_hasMap se_Plane_hasMap (z_Plane_hasMap hC a1) rfl ⟨by decide, by decide⟩ ⟨by decide, by decide⟩ (by decide) ?_ _ rfl
  rintro _ _ ⟨rfl, rfl⟩
  show PW _ _ _ _ _ _ (8, _, [.int 0], _)
  refine P_if_ne 15 d_CM_farthest_8 (by decide) (fun h => absurd (by decide) h) (fun _ => ?_)
  refine P_ldc2 (v := (-9223372036854775808)) d_CM_farthest_11 L_CM_270 ?_
  exact P_lret d_CM_farthest_14 rfl (le_b rfl) (le_b rfl) ⟨rfl, rfl⟩
theorem z_MD_farthest {G : pG} {w : pW} (hM : Has mfL w.2) (a1 : Int32) : PM G M_MD_farthest 1 0 0 [.ref 467, .int a1] w (fun r w' => r = some (.long (-9223372036854775808)) ∧ w' = w) := by
  refine PM_of pn_MD_farthest (le_b rfl) ?_
  show PW _ _ _ _ _ _ (0, [(0, .ref 467), (1, .int a1)], [], w)
  refine P_aload_n d_MD_farthest_0 rfl ?_
  refine P_iconst (v := 0) d_MD_farthest_1 (by decide) ?_
  refine P_putS (i := 0) d_MD_farthest_2 ok_Model (by decide) rfl L_MD_74 (fa hM 18 rfl) (fun _ => rfl) (fun _ => rfl) rfl ?_
  refine P_aload_n d_MD_farthest_5 rfl ?_
  refine P_iload_n d_MD_farthest_6 rfl ?_
  refine P_callV (M := M_MD_farthest) (pc := 7) (as := [.int a1]) (b := 467) d_MD_farthest_7 co_MD_isMap ok_Model (fa hM 18 rfl) L_MD_241 im_MD_isMap se_MD_isMap (z_MD_isMap hM a1) rfl ⟨by decide, by decide⟩ ⟨by decide, by decide⟩ (by decide) ?_ _ rfl
  rintro _ _ ⟨rfl, rfl⟩
  show PW _ _ _ _ _ _ (10, _, [.int 0], _)
  refine P_if_ne 17 d_MD_farthest_10 (by decide) (fun h => absurd (by decide) h) (fun _ => ?_)
  refine P_ldc2 (v := (-9223372036854775808)) d_MD_farthest_13 L_MD_307 ?_
  exact P_lret d_MD_farthest_16 rfl (le_b rfl) (le_b rfl) ⟨rfl, rfl⟩
theorem z_CM_spell {G : pG} {w : pW} (hC : Has cfL w.2) (a1 a2 : Int32) : PM G M_CM_spell 1 0 0 [.ref 0, .int a1, .int a2] w (fun r w' => r = some (.int (-1)) ∧ w' = w) := by
  refine PM_of pn_CM_spell (le_b rfl) ?_
  show PW _ _ _ _ _ _ (0, [(0, .ref 0), (1, .int a1), (2, .int a2)], [], w)
  refine P_aload_n d_CM_spell_0 rfl ?_
  refine P_getf (i := 0) d_CM_spell_1 ok_CM (by decide) L_CM_12 (fa hC 28 rfl) rfl ?_
  refine P_iload_n d_CM_spell_4 rfl ?_
  refine P_callV (M := M_CM_spell) (pc := 5) (as := [.int a1]) (b := 1) d_CM_spell_5 co_Plane_hasMap ok_Plane (fa hC 29 rfl) L_CM_151 im_Plane_hasMap se_Plane_hasMap (z_Plane_hasMap hC a1) rfl ⟨by decide, by decide⟩ ⟨by decide, by decide⟩ (by decide) ?_ _ rfl
  rintro _ _ ⟨rfl, rfl⟩
  show PW _ _ _ _ _ _ (8, _, [.int 0], _)
  refine P_if_eq 16 d_CM_spell_8 (by decide) (fun _ => ?_) (fun h => absurd (by decide) h)
  refine P_iconst (v := (-1)) d_CM_spell_16 (by decide) ?_
  exact P_iret d_CM_spell_17 rfl (le_b rfl) (le_b rfl) ⟨rfl, rfl⟩
theorem z_MD_spell {G : pG} {w : pW} (hM : Has mfL w.2) (a1 a2 : Int32) : PM G M_MD_spell 1 0 0 [.ref 467, .int a1, .int a2] w (fun r w' => r = some (.int (-1)) ∧ w' = w) := by
  refine PM_of pn_MD_spell (le_b rfl) ?_
  show PW _ _ _ _ _ _ (0, [(0, .ref 467), (1, .int a1), (2, .int a2)], [], w)
  refine P_aload_n d_MD_spell_0 rfl ?_
  refine P_iconst (v := 0) d_MD_spell_1 (by decide) ?_
  refine P_putS (i := 0) d_MD_spell_2 ok_Model (by decide) rfl L_MD_74 (fa hM 18 rfl) (fun _ => rfl) (fun _ => rfl) rfl ?_
  refine P_aload_n d_MD_spell_5 rfl ?_
  refine P_iload_n d_MD_spell_6 rfl ?_
  refine P_callV (M := M_MD_spell) (pc := 7) (as := [.int a1]) (b := 467) d_MD_spell_7 co_MD_isMap ok_Model (fa hM 18 rfl) L_MD_241 im_MD_isMap se_MD_isMap (z_MD_isMap hM a1) rfl ⟨by decide, by decide⟩ ⟨by decide, by decide⟩ (by decide) ?_ _ rfl
  rintro _ _ ⟨rfl, rfl⟩
  show PW _ _ _ _ _ _ (10, _, [.int 0], _)
  refine P_if_eq 18 d_MD_spell_10 (by decide) (fun _ => ?_) (fun h => absurd (by decide) h)
  refine P_iconst (v := (-1)) d_MD_spell_18 (by decide) ?_
  exact P_iret d_MD_spell_19 rfl (le_b rfl) (le_b rfl) ⟨rfl, rfl⟩
theorem z_CM_kept {G : pG} {w : pW} (hC : Has cfL w.2) (a1 : Int32) : PM G M_CM_kept 1 0 0 [.ref 0, .int a1] w (fun r w' => r = some (.int (-1)) ∧ w' = w) := by
  refine PM_of pn_CM_kept (le_b rfl) ?_
  show PW _ _ _ _ _ _ (0, [(0, .ref 0), (1, .int a1)], [], w)
  refine P_aload_n d_CM_kept_0 rfl ?_
  refine P_getf (i := 0) d_CM_kept_1 ok_CM (by decide) L_CM_12 (fa hC 28 rfl) rfl ?_
  refine P_iload_n d_CM_kept_4 rfl ?_
  refine P_callV (M := M_CM_kept) (pc := 5) (as := [.int a1]) (b := 1) d_CM_kept_5 co_Plane_hasMap ok_Plane (fa hC 29 rfl) L_CM_151 im_Plane_hasMap se_Plane_hasMap (z_Plane_hasMap hC a1) rfl ⟨by decide, by decide⟩ ⟨by decide, by decide⟩ (by decide) ?_ _ rfl
  rintro _ _ ⟨rfl, rfl⟩
  show PW _ _ _ _ _ _ (8, _, [.int 0], _)
  refine P_if_ne 13 d_CM_kept_8 (by decide) (fun h => absurd (by decide) h) (fun _ => ?_)
  refine P_iconst (v := (-1)) d_CM_kept_11 (by decide) ?_
  exact P_iret d_CM_kept_12 rfl (le_b rfl) (le_b rfl) ⟨rfl, rfl⟩
theorem z_MD_kept {G : pG} {w : pW} (hM : Has mfL w.2) (a1 : Int32) : PM G M_MD_kept 1 0 0 [.ref 467, .int a1] w (fun r w' => r = some (.int (-1)) ∧ w' = w) := by
  refine PM_of pn_MD_kept (le_b rfl) ?_
  show PW _ _ _ _ _ _ (0, [(0, .ref 467), (1, .int a1)], [], w)
  refine P_aload_n d_MD_kept_0 rfl ?_
  refine P_iconst (v := 0) d_MD_kept_1 (by decide) ?_
  refine P_putS (i := 0) d_MD_kept_2 ok_Model (by decide) rfl L_MD_74 (fa hM 18 rfl) (fun _ => rfl) (fun _ => rfl) rfl ?_
  refine P_aload_n d_MD_kept_5 rfl ?_
  refine P_iload_n d_MD_kept_6 rfl ?_
  refine P_callV (M := M_MD_kept) (pc := 7) (as := [.int a1]) (b := 467) d_MD_kept_7 co_MD_isMap ok_Model (fa hM 18 rfl) L_MD_241 im_MD_isMap se_MD_isMap (z_MD_isMap hM a1) rfl ⟨by decide, by decide⟩ ⟨by decide, by decide⟩ (by decide) ?_ _ rfl
  rintro _ _ ⟨rfl, rfl⟩
  show PW _ _ _ _ _ _ (10, _, [.int 0], _)
  refine P_if_ne 15 d_MD_kept_10 (by decide) (fun h => absurd (by decide) h) (fun _ => ?_)
  refine P_iconst (v := (-1)) d_MD_kept_13 (by decide) ?_
  exact P_iret d_MD_kept_14 rfl (le_b rfl) (le_b rfl) ⟨rfl, rfl⟩
theorem z_CM_find {G : pG} {w : pW} (hC : Has cfL w.2) (a1 a2 : Int32) : PM G M_CM_find 1 0 0 [.ref 0, .int a1, .int a2] w (fun r w' => r = some (.int (-1)) ∧ w' = w) := by
  refine PM_of pn_CM_find (le_b rfl) ?_
  show PW _ _ _ _ _ _ (0, [(0, .ref 0), (1, .int a1), (2, .int a2)], [], w)
  refine P_aload_n d_CM_find_0 rfl ?_
  refine P_getf (i := 0) d_CM_find_1 ok_CM (by decide) L_CM_12 (fa hC 28 rfl) rfl ?_
  refine P_iload_n d_CM_find_4 rfl ?_
  refine P_callV (M := M_CM_find) (pc := 5) (as := [.int a1]) (b := 1) d_CM_find_5 co_Plane_hasQuad ok_Plane (fa hC 29 rfl) L_CM_127 im_Plane_hasQuad se_Plane_hasQuad (z_Plane_hasQuad hC a1) rfl ⟨by decide, by decide⟩ ⟨by decide, by decide⟩ (by decide) ?_ _ rfl
  rintro _ _ ⟨rfl, rfl⟩
  show PW _ _ _ _ _ _ (8, _, [.int 0], _)
  refine P_if_eq 22 d_CM_find_8 (by decide) (fun _ => ?_) (fun h => absurd (by decide) h)
  refine P_iconst (v := (-1)) d_CM_find_22 (by decide) ?_
  exact P_iret d_CM_find_23 rfl (le_b rfl) (le_b rfl) ⟨rfl, rfl⟩
theorem z_MD_find {G : pG} {w : pW} (hM : Has mfL w.2) (a1 a2 : Int32) : PM G M_MD_find 1 0 0 [.ref 467, .int a1, .int a2] w (fun r w' => r = some (.int (-1)) ∧ w' = w) := by
  refine PM_of pn_MD_find (le_b rfl) ?_
  show PW _ _ _ _ _ _ (0, [(0, .ref 467), (1, .int a1), (2, .int a2)], [], w)
  refine P_aload_n d_MD_find_0 rfl ?_
  refine P_iconst (v := 0) d_MD_find_1 (by decide) ?_
  refine P_putS (i := 0) d_MD_find_2 ok_Model (by decide) rfl L_MD_74 (fa hM 18 rfl) (fun _ => rfl) (fun _ => rfl) rfl ?_
  refine P_aload_n d_MD_find_5 rfl ?_
  refine P_iload_n d_MD_find_6 rfl ?_
  refine P_callV (M := M_MD_find) (pc := 7) (as := [.int a1]) (b := 467) d_MD_find_7 co_MD_isQuad ok_Model (fa hM 18 rfl) L_MD_238 im_MD_isQuad se_MD_isQuad (z_MD_isQuad hM a1) rfl ⟨by decide, by decide⟩ ⟨by decide, by decide⟩ (by decide) ?_ _ rfl
  rintro _ _ ⟨rfl, rfl⟩
  show PW _ _ _ _ _ _ (10, _, [.int 0], _)
  refine P_if_eq 21 d_MD_find_10 (by decide) (fun _ => ?_) (fun h => absurd (by decide) h)
  refine P_iconst (v := (-1)) d_MD_find_21 (by decide) ?_
  exact P_iret d_MD_find_22 rfl (le_b rfl) (le_b rfl) ⟨rfl, rfl⟩
theorem z_CM_size {G : pG} {w : pW} (hC : Has cfL w.2) (a1 : Int32) : PM G M_CM_size 1 0 0 [.ref 0, .int a1] w (fun r w' => r = some (.int (-1)) ∧ w' = w) := by
  refine PM_of pn_CM_size (le_b rfl) ?_
  show PW _ _ _ _ _ _ (0, [(0, .ref 0), (1, .int a1)], [], w)
  refine P_aload_n d_CM_size_0 rfl ?_
  refine P_getf (i := 0) d_CM_size_1 ok_CM (by decide) L_CM_12 (fa hC 28 rfl) rfl ?_
  refine P_iload_n d_CM_size_4 rfl ?_
  refine P_callV (M := M_CM_size) (pc := 5) (as := [.int a1]) (b := 1) d_CM_size_5 co_Plane_hasMap ok_Plane (fa hC 29 rfl) L_CM_151 im_Plane_hasMap se_Plane_hasMap (z_Plane_hasMap hC a1) rfl ⟨by decide, by decide⟩ ⟨by decide, by decide⟩ (by decide) ?_ _ rfl
  rintro _ _ ⟨rfl, rfl⟩
  show PW _ _ _ _ _ _ (8, _, [.int 0], _)
  refine P_if_eq 27 d_CM_size_8 (by decide) (fun _ => ?_) (fun h => absurd (by decide) h)
  refine P_iconst (v := (-1)) d_CM_size_27 (by decide) ?_
  exact P_iret d_CM_size_28 rfl (le_b rfl) (le_b rfl) ⟨rfl, rfl⟩
theorem z_MD_size {G : pG} {w : pW} (hM : Has mfL w.2) (a1 : Int32) : PM G M_MD_size 1 0 0 [.ref 467, .int a1] w (fun r w' => r = some (.int (-1)) ∧ w' = w) := by
  refine PM_of pn_MD_size (le_b rfl) ?_
  show PW _ _ _ _ _ _ (0, [(0, .ref 467), (1, .int a1)], [], w)
  refine P_aload_n d_MD_size_0 rfl ?_
  refine P_iconst (v := 0) d_MD_size_1 (by decide) ?_
  refine P_putS (i := 0) d_MD_size_2 ok_Model (by decide) rfl L_MD_74 (fa hM 18 rfl) (fun _ => rfl) (fun _ => rfl) rfl ?_
  refine P_aload_n d_MD_size_5 rfl ?_
  refine P_iload_n d_MD_size_6 rfl ?_
  refine P_callV (M := M_MD_size) (pc := 7) (as := [.int a1]) (b := 467) d_MD_size_7 co_MD_isMap ok_Model (fa hM 18 rfl) L_MD_241 im_MD_isMap se_MD_isMap (z_MD_isMap hM a1) rfl ⟨by decide, by decide⟩ ⟨by decide, by decide⟩ (by decide) ?_ _ rfl
  rintro _ _ ⟨rfl, rfl⟩
  show PW _ _ _ _ _ _ (10, _, [.int 0], _)
  refine P_if_eq 21 d_MD_size_10 (by decide) (fun _ => ?_) (fun h => absurd (by decide) h)
  refine P_iconst (v := (-1)) d_MD_size_21 (by decide) ?_
  exact P_iret d_MD_size_22 rfl (le_b rfl) (le_b rfl) ⟨rfl, rfl⟩
