/-! shapes: the reference (by program) -/
theorem s_MD_vanishing {G : pG} {w : pW} (hI : I w) (a1 : Int32) (a2 : Int32) : PM G M_MD_vanishing 4 0 0 [.ref 467, .int a1, .int a2] w (fun r w' => (∃ v, r = some (.long v)) ∧ I w' ∧ FrM w w') := by
  refine PM_of pn_MD_vanishing (le_b rfl) ?_
  show PW _ _ _ _ _ _ (0, [(0, .ref 467), (1, .int a1), (2, .int a2)], [], w)
  obtain ⟨tp, qs, un, nq, ln, nl, sz, at_, pl, so, vl, wo, fa, fp, lf, lp, th, rm, um, sm, htp, hqs, hun, em⟩ := hI.md
  obtain ⟨fn, nm, np, en, hnm, e8, hnp, e9⟩ := hI.now
  refine P_aload_n d_MD_vanishing_0 rfl ?_
  refine P_iconst (v := 0) d_MD_vanishing_1 (by decide) ?_
  refine P_putG (i := 0) d_MD_vanishing_2 ok_Model (by decide) rfl L_MD_74 em (fun _ => rfl) (fun _ => rfl) (fun w1 e1 s1 n1 z1 => ?_)
  have hI1 : I w1 := hI.setM (show w1 = (_, wu _ 467 (mO (nI tp) (nI qs) nq (nI un) ln nl sz at_ pl so vl wo fa fp lf lp 0 rm um sm)) from e1) htp hqs hun
  have hF1 : Fr SN w w1 := Fr.set Fr.rf e1 (SN_t (by omega))
  show PW _ _ _ _ _ _ (5, [(0, .ref 467), (1, .int a1), (2, .int a2)], [], w1)
  refine P_aload_n d_MD_vanishing_5 rfl ?_
  refine P_iload_n d_MD_vanishing_6 rfl ?_
  refine P_callV (M := M_MD_vanishing) (pc := 7) (as := [.int a1]) (b := 467) d_MD_vanishing_7 co_MD_isMap ok_Model s1 L_MD_241 im_MD_isMap se_MD_isMap (s_MD_isMap a1 s1 htp hqs hun ((hF1.2 _ (SN_f (by omega))).trans en) hnm e8 hnp e9) rfl ⟨by decide, by decide⟩ ⟨by decide, by decide⟩ (by exact le_b rfl) ?_ _ rfl
  rintro _ u ⟨rfl, eu⟩
  subst u
  show PW _ _ _ _ _ _ (10, [(0, .ref 467), (1, .int a1), (2, .int a2)], [.int (bi (inN nm a1))], w1)
  refine P_if_eq 20 d_MD_vanishing_10 (by decide) (fun c3 => ?_) (fun c3 => ?_)
  · refine P_ldc2 (v := (-9223372036854775808)) d_MD_vanishing_20 L_MD_307 ?_
    exact P_lret d_MD_vanishing_23 rfl (le_b rfl) (le_b rfl) ⟨⟨_, rfl⟩, hI1, FrM.of hF1 ⟨_, _, _, _, em⟩ ⟨_, _, _, _, s1⟩⟩
  · obtain ⟨a1N, ha1N, rfl⟩ := inN_of (bi_1 c3) (by omega)
    refine P_iload_n d_MD_vanishing_13 rfl ?_
    refine P_callS (M := M_MD_vanishing) (pc := 14) (as := [.int a2]) d_MD_vanishing_14 co_MD_isThird L_MD_244 sm_MD_isThird (s_MD_isThird a2) rfl ⟨by decide, by decide⟩ ⟨by decide, by decide⟩ (by exact le_b rfl) ?_ _ rfl
    rintro _ u ⟨rfl, eu⟩
    subst u
    show PW _ _ _ _ _ _ (17, [(0, .ref 467), (1, .int (nI a1N)), (2, .int a2)], [.int (bi (inN 3 a2))], w1)
    refine P_if_ne 24 d_MD_vanishing_17 (by decide) (fun c5 => ?_) (fun c5 => ?_)
    · obtain ⟨a2N, ha2N, rfl⟩ := inN_of (bi_1 c5) (by omega)
      refine P_aload_n d_MD_vanishing_24 rfl ?_
      refine P_iload_n d_MD_vanishing_25 rfl ?_
      refine P_callV (M := M_MD_vanishing) (pc := 26) (as := [.int (nI a1N)]) (b := 467) d_MD_vanishing_26 co_MD_laysInverse ok_Model s1 L_MD_280 im_MD_laysInverse se_MD_laysInverse (s_MD_laysInverse hI1 a1N (by omega)) rfl ⟨by decide, by decide⟩ ⟨by decide, by decide⟩ (by exact le_b rfl) ?_ _ rfl
      rintro _ w6 ⟨rfl, hI6, hG6⟩
      have hF6 : Fr SN w w6 := Fr.tr hF1 hG6.1
      obtain ⟨th6, rm6, um6, sm6, em6⟩ := hG6.2 (nI tp) (nI qs) nq (nI un) ln nl sz at_ pl so vl wo fa fp lf lp ⟨_, _, _, _, s1⟩
      show PW _ _ _ _ _ _ (29, [(0, .ref 467), (1, .int (nI a1N)), (2, .int (nI a2N))], [], w6)
      refine P_aload_n d_MD_vanishing_29 rfl ?_
      refine P_aload_n d_MD_vanishing_30 rfl ?_
      refine P_getf (i := 25) d_MD_vanishing_31 ok_Model (by decide) L_MD_41 em6 rfl ?_
      refine P_bipush (v := 6) d_MD_vanishing_34 (by decide) ?_
      obtain ⟨f7, f7e⟩ := hI6.row (r := 476) (by decide) kc_476
      refine P_lald (j := 6) d_MD_vanishing_36 f7e ⟨by decide, by decide⟩ (by decide) ?_
      refine P_aload_n d_MD_vanishing_37 rfl ?_
      refine P_getf (i := 25) d_MD_vanishing_38 ok_Model (by decide) L_MD_41 em6 rfl ?_
      refine P_bipush (v := 7) d_MD_vanishing_41 (by decide) ?_
      refine P_lald (j := 7) d_MD_vanishing_43 f7e ⟨by decide, by decide⟩ (by decide) ?_
      refine P_aload_n d_MD_vanishing_44 rfl ?_
      refine P_getf (i := 25) d_MD_vanishing_45 ok_Model (by decide) L_MD_41 em6 rfl ?_
      refine P_bipush (v := 8) d_MD_vanishing_48 (by decide) ?_
      refine P_lald (j := 8) d_MD_vanishing_50 f7e ⟨by decide, by decide⟩ (by decide) ?_
      refine P_callV (M := M_MD_vanishing) (pc := 51) (as := [.long (f7 6), .long (f7 7), .long (f7 8)]) (b := 467) d_MD_vanishing_51 co_MD_laysThree ok_Model em6 L_MD_179 im_MD_laysThree se_MD_laysThree (s_MD_laysThree hI6 (f7 6) (f7 7) (f7 8)) rfl ⟨by decide, by decide⟩ ⟨by decide, by decide⟩ (by exact le_b rfl) ?_ _ rfl
      rintro _ w8 ⟨rfl, hI8, hG8⟩
      have hF8 : Fr SN w w8 := Fr.tr hF6 hG8.1
      obtain ⟨th8, rm8, um8, sm8, em8⟩ := hG8.2 (nI tp) (nI qs) nq (nI un) ln nl sz at_ pl so vl wo fa fp lf lp ⟨_, _, _, _, em6⟩
      show PW _ _ _ _ _ _ (54, [(0, .ref 467), (1, .int (nI a1N)), (2, .int (nI a2N))], [], w8)
      refine P_aload_n d_MD_vanishing_54 rfl ?_
      refine P_getf (i := 28) d_MD_vanishing_55 ok_Model (by decide) L_MD_50 em8 rfl ?_
      refine P_iload_n d_MD_vanishing_58 rfl ?_
      obtain ⟨f9, f9e⟩ := hI8.row (r := 479) (by decide) kc_479
      refine P_lald (j := a2N) d_MD_vanishing_59 f9e (ix_nI (by omega)) (by omega) ?_
      exact P_lret d_MD_vanishing_60 rfl (le_b rfl) (le_b rfl) ⟨⟨_, rfl⟩, hI8, FrM.of hF8 ⟨_, _, _, _, em⟩ ⟨_, _, _, _, em8⟩⟩
    · refine P_ldc2 (v := (-9223372036854775808)) d_MD_vanishing_20 L_MD_307 ?_
      exact P_lret d_MD_vanishing_23 rfl (le_b rfl) (le_b rfl) ⟨⟨_, rfl⟩, hI1, FrM.of hF1 ⟨_, _, _, _, em⟩ ⟨_, _, _, _, s1⟩⟩
theorem s_MD_cut {G : pG} {w : pW} (hI : I w) (a1 : Int32) (a2 : Int32) (a3 : Int32) : PM G M_MD_cut 2 0 0 [.ref 467, .int a1, .int a2, .int a3] w (fun r w' => (∃ v, r = some (.int v)) ∧ I w' ∧ FrM w w') := by
  refine PM_of pn_MD_cut (le_b rfl) ?_
  show PW _ _ _ _ _ _ (0, [(0, .ref 467), (1, .int a1), (2, .int a2), (3, .int a3)], [], w)
  obtain ⟨tp, qs, un, nq, ln, nl, sz, at_, pl, so, vl, wo, fa, fp, lf, lp, th, rm, um, sm, htp, hqs, hun, em⟩ := hI.md
  obtain ⟨fn, nm, np, en, hnm, e8, hnp, e9⟩ := hI.now
  refine P_aload_n d_MD_cut_0 rfl ?_
  refine P_iconst (v := 0) d_MD_cut_1 (by decide) ?_
  refine P_putG (i := 0) d_MD_cut_2 ok_Model (by decide) rfl L_MD_74 em (fun _ => rfl) (fun _ => rfl) (fun w1 e1 s1 n1 z1 => ?_)
  have hI1 : I w1 := hI.setM (show w1 = (_, wu _ 467 (mO (nI tp) (nI qs) nq (nI un) ln nl sz at_ pl so vl wo fa fp lf lp 0 rm um sm)) from e1) htp hqs hun
  have hF1 : Fr SN w w1 := Fr.set Fr.rf e1 (SN_t (by omega))
  show PW _ _ _ _ _ _ (5, [(0, .ref 467), (1, .int a1), (2, .int a2), (3, .int a3)], [], w1)
  refine P_aload_n d_MD_cut_5 rfl ?_
  refine P_iload_n d_MD_cut_6 rfl ?_
  refine P_callV (M := M_MD_cut) (pc := 7) (as := [.int a1]) (b := 467) d_MD_cut_7 co_MD_isMap ok_Model s1 L_MD_241 im_MD_isMap se_MD_isMap (s_MD_isMap a1 s1 htp hqs hun ((hF1.2 _ (SN_f (by omega))).trans en) hnm e8 hnp e9) rfl ⟨by decide, by decide⟩ ⟨by decide, by decide⟩ (by exact le_b rfl) ?_ _ rfl
  rintro _ u ⟨rfl, eu⟩
  subst u
  show PW _ _ _ _ _ _ (10, [(0, .ref 467), (1, .int a1), (2, .int a2), (3, .int a3)], [.int (bi (inN nm a1))], w1)
  refine P_if_eq 29 d_MD_cut_10 (by decide) (fun c3 => ?_) (fun c3 => ?_)
  · refine P_iconst (v := (-1)) d_MD_cut_29 (by decide) ?_
    exact P_iret d_MD_cut_30 rfl (le_b rfl) (le_b rfl) ⟨⟨_, rfl⟩, hI1, FrM.of hF1 ⟨_, _, _, _, em⟩ ⟨_, _, _, _, s1⟩⟩
  · obtain ⟨a1N, ha1N, rfl⟩ := inN_of (bi_1 c3) (by omega)
    refine P_aload_n d_MD_cut_13 rfl ?_
    refine P_iload_n d_MD_cut_14 rfl ?_
    refine P_callV (M := M_MD_cut) (pc := 15) (as := [.int a2]) (b := 467) d_MD_cut_15 co_MD_isPoint ok_Model s1 L_MD_247 im_MD_isPoint se_MD_isPoint (s_MD_isPoint a2 s1 htp hqs hun ((hF1.2 _ (SN_f (by omega))).trans en) hnm e8 hnp e9) rfl ⟨by decide, by decide⟩ ⟨by decide, by decide⟩ (by exact le_b rfl) ?_ _ rfl
    rintro _ u ⟨rfl, eu⟩
    subst u
    show PW _ _ _ _ _ _ (18, [(0, .ref 467), (1, .int (nI a1N)), (2, .int a2), (3, .int a3)], [.int (bi (inN np a2))], w1)
    refine P_if_eq 29 d_MD_cut_18 (by decide) (fun c5 => ?_) (fun c5 => ?_)
    · refine P_iconst (v := (-1)) d_MD_cut_29 (by decide) ?_
      exact P_iret d_MD_cut_30 rfl (le_b rfl) (le_b rfl) ⟨⟨_, rfl⟩, hI1, FrM.of hF1 ⟨_, _, _, _, em⟩ ⟨_, _, _, _, s1⟩⟩
    · obtain ⟨a2N, ha2N, rfl⟩ := inN_of (bi_1 c5) (by omega)
      refine P_aload_n d_MD_cut_21 rfl ?_
      refine P_iload_n d_MD_cut_22 rfl ?_
      refine P_callV (M := M_MD_cut) (pc := 23) (as := [.int a3]) (b := 467) d_MD_cut_23 co_MD_isPoint ok_Model s1 L_MD_247 im_MD_isPoint se_MD_isPoint (s_MD_isPoint a3 s1 htp hqs hun ((hF1.2 _ (SN_f (by omega))).trans en) hnm e8 hnp e9) rfl ⟨by decide, by decide⟩ ⟨by decide, by decide⟩ (by exact le_b rfl) ?_ _ rfl
      rintro _ u ⟨rfl, eu⟩
      subst u
      show PW _ _ _ _ _ _ (26, [(0, .ref 467), (1, .int (nI a1N)), (2, .int (nI a2N)), (3, .int a3)], [.int (bi (inN np a3))], w1)
      refine P_if_ne 31 d_MD_cut_26 (by decide) (fun c7 => ?_) (fun c7 => ?_)
      · obtain ⟨a3N, ha3N, rfl⟩ := inN_of (bi_1 c7) (by omega)
        refine P_aload_n d_MD_cut_31 rfl ?_
        refine P_iload_n d_MD_cut_32 rfl ?_
        refine P_iconst (v := 2) d_MD_cut_33 (by decide) ?_
        refine P_callV (M := M_MD_cut) (pc := 34) (as := [.int (nI a2N), .int 2]) (b := 467) d_MD_cut_34 co_MD_pointOf ok_Model s1 L_MD_250 im_MD_pointOf se_MD_pointOf (s_MD_pointOf a2N (by omega) 2 (by decide) s1 htp hqs hun ((hF1.2 _ (SN_f (by omega))).trans en) hnm e8 hnp e9) rfl ⟨by decide, by decide⟩ ⟨by decide, by decide⟩ (by exact le_b rfl) ?_ _ rfl
        rintro _ u ⟨⟨v8, rfl⟩, eu⟩
        subst u
        show PW _ _ _ _ _ _ (37, [(0, .ref 467), (1, .int (nI a1N)), (2, .int (nI a2N)), (3, .int (nI a3N))], [.long v8], w1)
        refine P_lconst (v := 0) d_MD_cut_37 (by decide) ?_
        refine P_lcmp d_MD_cut_38 ?_
        refine P_if_eq 53 d_MD_cut_39 (by decide) (fun c9 => ?_) (fun c9 => ?_)
        · refine P_bipush (v := (-2)) d_MD_cut_53 (by decide) ?_
          exact P_iret d_MD_cut_55 rfl (le_b rfl) (le_b rfl) ⟨⟨_, rfl⟩, hI1, FrM.of hF1 ⟨_, _, _, _, em⟩ ⟨_, _, _, _, s1⟩⟩
        · refine P_aload_n d_MD_cut_42 rfl ?_
          refine P_iload_n d_MD_cut_43 rfl ?_
          refine P_iconst (v := 2) d_MD_cut_44 (by decide) ?_
          refine P_callV (M := M_MD_cut) (pc := 45) (as := [.int (nI a3N), .int 2]) (b := 467) d_MD_cut_45 co_MD_pointOf ok_Model s1 L_MD_250 im_MD_pointOf se_MD_pointOf (s_MD_pointOf a3N (by omega) 2 (by decide) s1 htp hqs hun ((hF1.2 _ (SN_f (by omega))).trans en) hnm e8 hnp e9) rfl ⟨by decide, by decide⟩ ⟨by decide, by decide⟩ (by exact le_b rfl) ?_ _ rfl
          rintro _ u ⟨⟨v10, rfl⟩, eu⟩
          subst u
          show PW _ _ _ _ _ _ (48, [(0, .ref 467), (1, .int (nI a1N)), (2, .int (nI a2N)), (3, .int (nI a3N))], [.long v10], w1)
          refine P_lconst (v := 0) d_MD_cut_48 (by decide) ?_
          refine P_lcmp d_MD_cut_49 ?_
          refine P_if_ne 56 d_MD_cut_50 (by decide) (fun c11 => ?_) (fun c11 => ?_)
          · refine P_aload_n d_MD_cut_56 rfl ?_
            refine P_iload_n d_MD_cut_57 rfl ?_
            refine P_aload_n d_MD_cut_58 rfl ?_
            refine P_iload_n d_MD_cut_59 rfl ?_
            refine P_iconst (v := 0) d_MD_cut_60 (by decide) ?_
            refine P_callV (M := M_MD_cut) (pc := 61) (as := [.int (nI a2N), .int 0]) (b := 467) d_MD_cut_61 co_MD_pointOf ok_Model s1 L_MD_250 im_MD_pointOf se_MD_pointOf (s_MD_pointOf a2N (by omega) 0 (by decide) s1 htp hqs hun ((hF1.2 _ (SN_f (by omega))).trans en) hnm e8 hnp e9) rfl ⟨by decide, by decide⟩ ⟨by decide, by decide⟩ (by exact le_b rfl) ?_ _ rfl
            rintro _ u ⟨⟨v12, rfl⟩, eu⟩
            subst u
            show PW _ _ _ _ _ _ (64, [(0, .ref 467), (1, .int (nI a1N)), (2, .int (nI a2N)), (3, .int (nI a3N))], [.long v12, .int (nI a1N), .ref 467], w1)
            refine P_aload_n d_MD_cut_64 rfl ?_
            refine P_iload_n d_MD_cut_65 rfl ?_
            refine P_iconst (v := 1) d_MD_cut_66 (by decide) ?_
            refine P_callV (M := M_MD_cut) (pc := 67) (as := [.int (nI a2N), .int 1]) (b := 467) d_MD_cut_67 co_MD_pointOf ok_Model s1 L_MD_250 im_MD_pointOf se_MD_pointOf (s_MD_pointOf a2N (by omega) 1 (by decide) s1 htp hqs hun ((hF1.2 _ (SN_f (by omega))).trans en) hnm e8 hnp e9) rfl ⟨by decide, by decide⟩ ⟨by decide, by decide⟩ (by exact le_b rfl) ?_ _ rfl
            rintro _ u ⟨⟨v13, rfl⟩, eu⟩
            subst u
            show PW _ _ _ _ _ _ (70, [(0, .ref 467), (1, .int (nI a1N)), (2, .int (nI a2N)), (3, .int (nI a3N))], [.long v13, .long v12, .int (nI a1N), .ref 467], w1)
            refine P_aload_n d_MD_cut_70 rfl ?_
            refine P_iload_n d_MD_cut_71 rfl ?_
            refine P_iconst (v := 2) d_MD_cut_72 (by decide) ?_
            refine P_callV (M := M_MD_cut) (pc := 73) (as := [.int (nI a2N), .int 2]) (b := 467) d_MD_cut_73 co_MD_pointOf ok_Model s1 L_MD_250 im_MD_pointOf se_MD_pointOf (s_MD_pointOf a2N (by omega) 2 (by decide) s1 htp hqs hun ((hF1.2 _ (SN_f (by omega))).trans en) hnm e8 hnp e9) rfl ⟨by decide, by decide⟩ ⟨by decide, by decide⟩ (by exact le_b rfl) ?_ _ rfl
            rintro _ u ⟨⟨v14, rfl⟩, eu⟩
            subst u
            show PW _ _ _ _ _ _ (76, [(0, .ref 467), (1, .int (nI a1N)), (2, .int (nI a2N)), (3, .int (nI a3N))], [.long v14, .long v13, .long v12, .int (nI a1N), .ref 467], w1)
            refine P_callV (M := M_MD_cut) (pc := 76) (as := [.int (nI a1N), .long v12, .long v13, .long v14]) (b := 467) d_MD_cut_76 co_MD_sideOf ok_Model s1 L_MD_315 im_MD_sideOf se_MD_sideOf (s_MD_sideOf a1N (by omega) v12 v13 v14 s1 htp hqs hun ((hF1.2 _ (SN_f (by omega))).trans en) hnm e8 hnp e9) rfl ⟨by decide, by decide⟩ ⟨by decide, by decide⟩ (by exact le_b rfl) ?_ _ rfl
            rintro _ u ⟨⟨v15, rfl⟩, eu⟩
            subst u
            show PW _ _ _ _ _ _ (79, [(0, .ref 467), (1, .int (nI a1N)), (2, .int (nI a2N)), (3, .int (nI a3N))], [.int v15], w1)
            refine P_istore d_MD_cut_79 (by decide) rfl ?_
            refine P_iload d_MD_cut_81 rfl ?_
            refine P_aload_n d_MD_cut_83 rfl ?_
            refine P_iload_n d_MD_cut_84 rfl ?_
            refine P_aload_n d_MD_cut_85 rfl ?_
            refine P_iload_n d_MD_cut_86 rfl ?_
            refine P_iconst (v := 0) d_MD_cut_87 (by decide) ?_
            refine P_callV (M := M_MD_cut) (pc := 88) (as := [.int (nI a3N), .int 0]) (b := 467) d_MD_cut_88 co_MD_pointOf ok_Model s1 L_MD_250 im_MD_pointOf se_MD_pointOf (s_MD_pointOf a3N (by omega) 0 (by decide) s1 htp hqs hun ((hF1.2 _ (SN_f (by omega))).trans en) hnm e8 hnp e9) rfl ⟨by decide, by decide⟩ ⟨by decide, by decide⟩ (by exact le_b rfl) ?_ _ rfl
            rintro _ u ⟨⟨v16, rfl⟩, eu⟩
            subst u
            show PW _ _ _ _ _ _ (91, [(0, .ref 467), (1, .int (nI a1N)), (2, .int (nI a2N)), (3, .int (nI a3N)), (4, .int v15)], [.long v16, .int (nI a1N), .ref 467, .int v15], w1)
            refine P_aload_n d_MD_cut_91 rfl ?_
            refine P_iload_n d_MD_cut_92 rfl ?_
            refine P_iconst (v := 1) d_MD_cut_93 (by decide) ?_
            refine P_callV (M := M_MD_cut) (pc := 94) (as := [.int (nI a3N), .int 1]) (b := 467) d_MD_cut_94 co_MD_pointOf ok_Model s1 L_MD_250 im_MD_pointOf se_MD_pointOf (s_MD_pointOf a3N (by omega) 1 (by decide) s1 htp hqs hun ((hF1.2 _ (SN_f (by omega))).trans en) hnm e8 hnp e9) rfl ⟨by decide, by decide⟩ ⟨by decide, by decide⟩ (by exact le_b rfl) ?_ _ rfl
            rintro _ u ⟨⟨v17, rfl⟩, eu⟩
            subst u
            show PW _ _ _ _ _ _ (97, [(0, .ref 467), (1, .int (nI a1N)), (2, .int (nI a2N)), (3, .int (nI a3N)), (4, .int v15)], [.long v17, .long v16, .int (nI a1N), .ref 467, .int v15], w1)
            refine P_aload_n d_MD_cut_97 rfl ?_
            refine P_iload_n d_MD_cut_98 rfl ?_
            refine P_iconst (v := 2) d_MD_cut_99 (by decide) ?_
            refine P_callV (M := M_MD_cut) (pc := 100) (as := [.int (nI a3N), .int 2]) (b := 467) d_MD_cut_100 co_MD_pointOf ok_Model s1 L_MD_250 im_MD_pointOf se_MD_pointOf (s_MD_pointOf a3N (by omega) 2 (by decide) s1 htp hqs hun ((hF1.2 _ (SN_f (by omega))).trans en) hnm e8 hnp e9) rfl ⟨by decide, by decide⟩ ⟨by decide, by decide⟩ (by exact le_b rfl) ?_ _ rfl
            rintro _ u ⟨⟨v18, rfl⟩, eu⟩
            subst u
            show PW _ _ _ _ _ _ (103, [(0, .ref 467), (1, .int (nI a1N)), (2, .int (nI a2N)), (3, .int (nI a3N)), (4, .int v15)], [.long v18, .long v17, .long v16, .int (nI a1N), .ref 467, .int v15], w1)
            refine P_callV (M := M_MD_cut) (pc := 103) (as := [.int (nI a1N), .long v16, .long v17, .long v18]) (b := 467) d_MD_cut_103 co_MD_sideOf ok_Model s1 L_MD_315 im_MD_sideOf se_MD_sideOf (s_MD_sideOf a1N (by omega) v16 v17 v18 s1 htp hqs hun ((hF1.2 _ (SN_f (by omega))).trans en) hnm e8 hnp e9) rfl ⟨by decide, by decide⟩ ⟨by decide, by decide⟩ (by exact le_b rfl) ?_ _ rfl
            rintro _ u ⟨⟨v19, rfl⟩, eu⟩
            subst u
            show PW _ _ _ _ _ _ (106, [(0, .ref 467), (1, .int (nI a1N)), (2, .int (nI a2N)), (3, .int (nI a3N)), (4, .int v15)], [.int v19, .int v15], w1)
            refine P_imul d_MD_cut_106 ?_
            refine P_if_le 114 d_MD_cut_107 (by decide) (fun c20 => ?_) (fun c20 => ?_)
            · refine P_iconst (v := 1) d_MD_cut_114 (by decide) ?_
              exact P_iret d_MD_cut_115 rfl (le_b rfl) (le_b rfl) ⟨⟨_, rfl⟩, hI1, FrM.of hF1 ⟨_, _, _, _, em⟩ ⟨_, _, _, _, s1⟩⟩
            · refine P_iconst (v := 0) d_MD_cut_110 (by decide) ?_
              refine P_goto 115 d_MD_cut_111 (by decide) ?_
              exact P_iret d_MD_cut_115 rfl (le_b rfl) (le_b rfl) ⟨⟨_, rfl⟩, hI1, FrM.of hF1 ⟨_, _, _, _, em⟩ ⟨_, _, _, _, s1⟩⟩
          · refine P_bipush (v := (-2)) d_MD_cut_53 (by decide) ?_
            exact P_iret d_MD_cut_55 rfl (le_b rfl) (le_b rfl) ⟨⟨_, rfl⟩, hI1, FrM.of hF1 ⟨_, _, _, _, em⟩ ⟨_, _, _, _, s1⟩⟩
      · refine P_iconst (v := (-1)) d_MD_cut_29 (by decide) ?_
        exact P_iret d_MD_cut_30 rfl (le_b rfl) (le_b rfl) ⟨⟨_, rfl⟩, hI1, FrM.of hF1 ⟨_, _, _, _, em⟩ ⟨_, _, _, _, s1⟩⟩
theorem s_MD_cutSides {G : pG} {w : pW} (hI : I w) (a1 : Int32) (a2 : Int32) : PM G M_MD_cutSides 3 0 0 [.ref 467, .int a1, .int a2] w (fun r w' => (∃ v, r = some (.int v)) ∧ I w' ∧ FrM w w') := by
  refine PM_of pn_MD_cutSides (le_b rfl) ?_
  show PW _ _ _ _ _ _ (0, [(0, .ref 467), (1, .int a1), (2, .int a2)], [], w)
  obtain ⟨tp, qs, un, nq, ln, nl, sz, at_, pl, so, vl, wo, fa, fp, lf, lp, th, rm, um, sm, htp, hqs, hun, em⟩ := hI.md
  obtain ⟨fn, nm, np, en, hnm, e8, hnp, e9⟩ := hI.now
  obtain ⟨f469, r469⟩ := hI.ints (r := 469) (by decide) kc_469
  refine P_aload_n d_MD_cutSides_0 rfl ?_
  refine P_iconst (v := 0) d_MD_cutSides_1 (by decide) ?_
  refine P_putG (i := 0) d_MD_cutSides_2 ok_Model (by decide) rfl L_MD_74 em (fun _ => rfl) (fun _ => rfl) (fun w1 e1 s1 n1 z1 => ?_)
  have hI1 : I w1 := hI.setM (show w1 = (_, wu _ 467 (mO (nI tp) (nI qs) nq (nI un) ln nl sz at_ pl so vl wo fa fp lf lp 0 rm um sm)) from e1) htp hqs hun
  have hF1 : Fr SN w w1 := Fr.set Fr.rf e1 (SN_t (by omega))
  show PW _ _ _ _ _ _ (5, [(0, .ref 467), (1, .int a1), (2, .int a2)], [], w1)
  refine P_aload_n d_MD_cutSides_5 rfl ?_
  refine P_iload_n d_MD_cutSides_6 rfl ?_
  refine P_callV (M := M_MD_cutSides) (pc := 7) (as := [.int a1]) (b := 467) d_MD_cutSides_7 co_MD_isMap ok_Model s1 L_MD_241 im_MD_isMap se_MD_isMap (s_MD_isMap a1 s1 htp hqs hun ((hF1.2 _ (SN_f (by omega))).trans en) hnm e8 hnp e9) rfl ⟨by decide, by decide⟩ ⟨by decide, by decide⟩ (by exact le_b rfl) ?_ _ rfl
  rintro _ u ⟨rfl, eu⟩
  subst u
  show PW _ _ _ _ _ _ (10, [(0, .ref 467), (1, .int a1), (2, .int a2)], [.int (bi (inN nm a1))], w1)
  refine P_if_eq 21 d_MD_cutSides_10 (by decide) (fun c3 => ?_) (fun c3 => ?_)
  · refine P_iconst (v := (-1)) d_MD_cutSides_21 (by decide) ?_
    exact P_iret d_MD_cutSides_22 rfl (le_b rfl) (le_b rfl) ⟨⟨_, rfl⟩, hI1, FrM.of hF1 ⟨_, _, _, _, em⟩ ⟨_, _, _, _, s1⟩⟩
  · obtain ⟨a1N, ha1N, rfl⟩ := inN_of (bi_1 c3) (by omega)
    refine P_aload_n d_MD_cutSides_13 rfl ?_
    refine P_iload_n d_MD_cutSides_14 rfl ?_
    refine P_callV (M := M_MD_cutSides) (pc := 15) (as := [.int a2]) (b := 467) d_MD_cutSides_15 co_MD_isQuad ok_Model s1 L_MD_238 im_MD_isQuad se_MD_isQuad (s_MD_isQuad a2 s1 htp hqs hun) rfl ⟨by decide, by decide⟩ ⟨by decide, by decide⟩ (by exact le_b rfl) ?_ _ rfl
    rintro _ u ⟨rfl, eu⟩
    subst u
    show PW _ _ _ _ _ _ (18, [(0, .ref 467), (1, .int (nI a1N)), (2, .int a2)], [.int (bi (inN qs a2))], w1)
    refine P_if_ne 23 d_MD_cutSides_18 (by decide) (fun c5 => ?_) (fun c5 => ?_)
    · obtain ⟨a2N, ha2N, rfl⟩ := inN_of (bi_1 c5) (by omega)
      refine P_iconst (v := 0) d_MD_cutSides_23 (by decide) ?_
      refine P_istore_n d_MD_cutSides_24 (by decide) rfl ?_
      refine P_iconst (v := 0) d_MD_cutSides_25 (by decide) ?_
      refine P_istore d_MD_cutSides_26 (by decide) rfl ?_
      refine PW_ind (σ := Int32 × pW) (4) (fun jj ss => I (ss.2) ∧ Fr SN w (ss.2) ∧ MS (nI tp) (nI qs) nq (nI un) ln nl sz at_ pl so vl wo fa fp lf lp ((ss.2).2 467)) (fun jj ss => (28, [(0, .ref 467), (1, .int (nI a1N)), (2, .int (nI a2N)), (3, .int ss.1), (4, .int (nI jj))], [], ss.2)) ?_ ?_ 0 (0, w1) (by omega) ⟨hI1, hF1, ⟨_, _, _, _, s1⟩⟩
      · rintro ⟨j6_3, uj6⟩ ⟨hIj6, hFj6, ⟨thj6, rmj6, umj6, smj6, emj6⟩⟩
        show PW _ _ _ _ _ _ (28, [(0, .ref 467), (1, .int (nI a1N)), (2, .int (nI a2N)), (3, .int j6_3), (4, .int 4)], [], uj6)
        refine P_iload d_MD_cutSides_28 rfl ?_
        refine P_iconst (v := 4) d_MD_cutSides_30 (by decide) ?_
        refine P_icmp_ge 75 d_MD_cutSides_31 (by decide) (fun _ => ?_) (fun h => absurd (by decide) h)
        refine P_iload_n d_MD_cutSides_75 rfl ?_
        exact P_iret d_MD_cutSides_76 rfl (le_b rfl) (le_b rfl) ⟨⟨_, rfl⟩, hIj6, FrM.of hFj6 ⟨_, _, _, _, em⟩ ⟨_, _, _, _, emj6⟩⟩
      · rintro j6 ⟨j6_3, uj6⟩ hj6 ⟨hIj6, hFj6, ⟨thj6, rmj6, umj6, smj6, emj6⟩⟩ kkj6
        show PW _ _ _ _ _ _ (28, [(0, .ref 467), (1, .int (nI a1N)), (2, .int (nI a2N)), (3, .int j6_3), (4, .int (nI j6))], [], uj6)
        refine P_iload d_MD_cutSides_28 rfl ?_
        refine P_iconst (v := 4) d_MD_cutSides_30 (by decide) ?_
        refine P_icmp_ge 75 d_MD_cutSides_31 (by decide) (fun h => absurd h (nI_geF (a := j6) (b := 4) (by omega) (by omega))) (fun _ => ?_)
        refine P_iload_n d_MD_cutSides_34 rfl ?_
        refine P_aload_n d_MD_cutSides_35 rfl ?_
        refine P_iload_n d_MD_cutSides_36 rfl ?_
        refine P_iload_n d_MD_cutSides_37 rfl ?_
        refine P_iload d_MD_cutSides_38 rfl ?_
        refine P_callV (M := M_MD_cutSides) (pc := 40) (as := [.int (nI a1N), .int (nI a2N), .int (nI j6)]) (b := 467) d_MD_cutSides_40 co_MD_sideOfCorner ok_Model emj6 L_MD_319 im_MD_sideOfCorner se_MD_sideOfCorner (s_MD_sideOfCorner a1N (by omega) a2N (by omega) j6 (by omega) emj6 htp hqs hun ((hFj6.2 _ (SN_f (by omega))).trans r469) ((hFj6.2 _ (SN_f (by omega))).trans en) hnm e8 hnp e9) rfl ⟨by decide, by decide⟩ ⟨by decide, by decide⟩ (by exact le_b rfl) ?_ _ rfl
        rintro _ u ⟨⟨v7, rfl⟩, eu⟩
        subst u
        show PW _ _ _ _ _ _ (43, [(0, .ref 467), (1, .int (nI a1N)), (2, .int (nI a2N)), (3, .int j6_3), (4, .int (nI j6))], [.int v7, .int j6_3], uj6)
        refine P_aload_n d_MD_cutSides_43 rfl ?_
        refine P_iload_n d_MD_cutSides_44 rfl ?_
        refine P_iload_n d_MD_cutSides_45 rfl ?_
        refine P_iload d_MD_cutSides_46 rfl ?_
        refine P_iconst (v := 1) d_MD_cutSides_48 (by decide) ?_
        refine P_iaddN (a := j6) (b := 1) d_MD_cutSides_49 ?_
        show PW _ _ _ _ _ _ (50, [(0, .ref 467), (1, .int (nI a1N)), (2, .int (nI a2N)), (3, .int j6_3), (4, .int (nI j6))], [.int (nI (j6 + 1)), .int (nI a2N), .int (nI a1N), .ref 467, .int v7, .int j6_3], uj6)
        refine P_iconst (v := 4) d_MD_cutSides_50 (by decide) ?_
        refine P_iremN (a := (j6 + 1)) (b := 4) d_MD_cutSides_51 (by omega) (by omega) (by omega) ?_
        show PW _ _ _ _ _ _ (52, [(0, .ref 467), (1, .int (nI a1N)), (2, .int (nI a2N)), (3, .int j6_3), (4, .int (nI j6))], [.int (nI ((j6 + 1) % 4)), .int (nI a2N), .int (nI a1N), .ref 467, .int v7, .int j6_3], uj6)
        refine P_callV (M := M_MD_cutSides) (pc := 52) (as := [.int (nI a1N), .int (nI a2N), .int (nI ((j6 + 1) % 4))]) (b := 467) d_MD_cutSides_52 co_MD_sideOfCorner ok_Model emj6 L_MD_319 im_MD_sideOfCorner se_MD_sideOfCorner (s_MD_sideOfCorner a1N (by omega) a2N (by omega) ((j6 + 1) % 4) (by omega) emj6 htp hqs hun ((hFj6.2 _ (SN_f (by omega))).trans r469) ((hFj6.2 _ (SN_f (by omega))).trans en) hnm e8 hnp e9) rfl ⟨by decide, by decide⟩ ⟨by decide, by decide⟩ (by exact le_b rfl) ?_ _ rfl
        rintro _ u ⟨⟨v8, rfl⟩, eu⟩
        subst u
        show PW _ _ _ _ _ _ (55, [(0, .ref 467), (1, .int (nI a1N)), (2, .int (nI a2N)), (3, .int j6_3), (4, .int (nI j6))], [.int v8, .int v7, .int j6_3], uj6)
        refine P_imul d_MD_cutSides_55 ?_
        refine P_if_le 63 d_MD_cutSides_56 (by decide) (fun c9 => ?_) (fun c9 => ?_)
        · refine P_iconst (v := 1) d_MD_cutSides_63 (by decide) ?_
          refine P_iload d_MD_cutSides_64 rfl ?_
          refine P_ishl d_MD_cutSides_66 ?_
          generalize (1 : Int32) <<< ((nI j6) &&& 31) = zz10
          show PW _ _ _ _ _ _ (67, [(0, .ref 467), (1, .int (nI a1N)), (2, .int (nI a2N)), (3, .int j6_3), (4, .int (nI j6))], [.int zz10, .int j6_3], uj6)
          refine P_ior d_MD_cutSides_67 ?_
          generalize j6_3 ||| zz10 = zz11
          show PW _ _ _ _ _ _ (68, [(0, .ref 467), (1, .int (nI a1N)), (2, .int (nI a2N)), (3, .int j6_3), (4, .int (nI j6))], [.int zz11], uj6)
          refine P_istore_n d_MD_cutSides_68 (by decide) rfl ?_
          refine P_iinc (v := nI (j6 + 1)) d_MD_cutSides_69 (by decide) rfl (nI_add j6 1) rfl ?_
          refine P_goto 28 d_MD_cutSides_72 (by decide) ?_
          exact kkj6 (zz11, uj6) ⟨hIj6, hFj6, ⟨_, _, _, _, emj6⟩⟩
        · refine P_iconst (v := 0) d_MD_cutSides_59 (by decide) ?_
          refine P_goto 67 d_MD_cutSides_60 (by decide) ?_
          refine P_ior d_MD_cutSides_67 ?_
          generalize j6_3 ||| (0 : Int32) = zz12
          show PW _ _ _ _ _ _ (68, [(0, .ref 467), (1, .int (nI a1N)), (2, .int (nI a2N)), (3, .int j6_3), (4, .int (nI j6))], [.int zz12], uj6)
          refine P_istore_n d_MD_cutSides_68 (by decide) rfl ?_
          refine P_iinc (v := nI (j6 + 1)) d_MD_cutSides_69 (by decide) rfl (nI_add j6 1) rfl ?_
          refine P_goto 28 d_MD_cutSides_72 (by decide) ?_
          exact kkj6 (zz12, uj6) ⟨hIj6, hFj6, ⟨_, _, _, _, emj6⟩⟩
    · refine P_iconst (v := (-1)) d_MD_cutSides_21 (by decide) ?_
      exact P_iret d_MD_cutSides_22 rfl (le_b rfl) (le_b rfl) ⟨⟨_, rfl⟩, hI1, FrM.of hF1 ⟨_, _, _, _, em⟩ ⟨_, _, _, _, s1⟩⟩
theorem s_MD_kept {G : pG} {w : pW} (hI : I w) (a1 : Int32) : PM G M_MD_kept 3 0 0 [.ref 467, .int a1] w (fun r w' => (∃ v, r = some (.int v)) ∧ I w' ∧ FrM w w') := by
  refine PM_of pn_MD_kept (le_b rfl) ?_
  show PW _ _ _ _ _ _ (0, [(0, .ref 467), (1, .int a1)], [], w)
  obtain ⟨tp, qs, un, nq, ln, nl, sz, at_, pl, so, vl, wo, fa, fp, lf, lp, th, rm, um, sm, htp, hqs, hun, em⟩ := hI.md
  obtain ⟨fn, nm, np, en, hnm, e8, hnp, e9⟩ := hI.now
  obtain ⟨f469, r469⟩ := hI.ints (r := 469) (by decide) kc_469
  refine P_aload_n d_MD_kept_0 rfl ?_
  refine P_iconst (v := 0) d_MD_kept_1 (by decide) ?_
  refine P_putG (i := 0) d_MD_kept_2 ok_Model (by decide) rfl L_MD_74 em (fun _ => rfl) (fun _ => rfl) (fun w1 e1 s1 n1 z1 => ?_)
  have hI1 : I w1 := hI.setM (show w1 = (_, wu _ 467 (mO (nI tp) (nI qs) nq (nI un) ln nl sz at_ pl so vl wo fa fp lf lp 0 rm um sm)) from e1) htp hqs hun
  have hF1 : Fr SN w w1 := Fr.set Fr.rf e1 (SN_t (by omega))
  show PW _ _ _ _ _ _ (5, [(0, .ref 467), (1, .int a1)], [], w1)
  refine P_aload_n d_MD_kept_5 rfl ?_
  refine P_iload_n d_MD_kept_6 rfl ?_
  refine P_callV (M := M_MD_kept) (pc := 7) (as := [.int a1]) (b := 467) d_MD_kept_7 co_MD_isMap ok_Model s1 L_MD_241 im_MD_isMap se_MD_isMap (s_MD_isMap a1 s1 htp hqs hun ((hF1.2 _ (SN_f (by omega))).trans en) hnm e8 hnp e9) rfl ⟨by decide, by decide⟩ ⟨by decide, by decide⟩ (by exact le_b rfl) ?_ _ rfl
  rintro _ u ⟨rfl, eu⟩
  subst u
  show PW _ _ _ _ _ _ (10, [(0, .ref 467), (1, .int a1)], [.int (bi (inN nm a1))], w1)
  refine P_if_ne 15 d_MD_kept_10 (by decide) (fun c3 => ?_) (fun c3 => ?_)
  · obtain ⟨a1N, ha1N, rfl⟩ := inN_of (bi_1 c3) (by omega)
    refine P_iconst (v := 0) d_MD_kept_15 (by decide) ?_
    refine P_istore_n d_MD_kept_16 (by decide) rfl ?_
    refine P_iconst (v := 0) d_MD_kept_17 (by decide) ?_
    refine P_istore_n d_MD_kept_18 (by decide) rfl ?_
    refine PW_ind (σ := Int32 × pW) (qs) (fun jj ss => I (ss.2) ∧ Fr SN w (ss.2) ∧ MS (nI tp) (nI qs) nq (nI un) ln nl sz at_ pl so vl wo fa fp lf lp ((ss.2).2 467)) (fun jj ss => (19, [(0, .ref 467), (1, .int (nI a1N)), (2, .int ss.1), (3, .int (nI jj))], [], ss.2)) ?_ ?_ 0 (0, w1) (by omega) ⟨hI1, hF1, ⟨_, _, _, _, s1⟩⟩
    · rintro ⟨j4_2, uj4⟩ ⟨hIj4, hFj4, ⟨thj4, rmj4, umj4, smj4, emj4⟩⟩
      show PW _ _ _ _ _ _ (19, [(0, .ref 467), (1, .int (nI a1N)), (2, .int j4_2), (3, .int (nI qs))], [], uj4)
      refine P_iload_n d_MD_kept_19 rfl ?_
      refine P_aload_n d_MD_kept_20 rfl ?_
      refine P_getf (i := 5) d_MD_kept_21 ok_Model (by decide) L_MD_204 emj4 rfl ?_
      refine P_icmp_ge 89 d_MD_kept_24 (by decide) (fun _ => ?_) (fun h => absurd (Int32.le_refl _) h)
      refine P_iload_n d_MD_kept_89 rfl ?_
      exact P_iret d_MD_kept_90 rfl (le_b rfl) (le_b rfl) ⟨⟨_, rfl⟩, hIj4, FrM.of hFj4 ⟨_, _, _, _, em⟩ ⟨_, _, _, _, emj4⟩⟩
    · rintro j4 ⟨j4_2, uj4⟩ hj4 ⟨hIj4, hFj4, ⟨thj4, rmj4, umj4, smj4, emj4⟩⟩ kkj4
      show PW _ _ _ _ _ _ (19, [(0, .ref 467), (1, .int (nI a1N)), (2, .int j4_2), (3, .int (nI j4))], [], uj4)
      refine P_iload_n d_MD_kept_19 rfl ?_
      refine P_aload_n d_MD_kept_20 rfl ?_
      refine P_getf (i := 5) d_MD_kept_21 ok_Model (by decide) L_MD_204 emj4 rfl ?_
      refine P_icmp_ge 89 d_MD_kept_24 (by decide) (fun h => absurd h (nI_geF (a := j4) (b := qs) (by omega) (by omega))) (fun _ => ?_)
      refine P_iconst (v := 1) d_MD_kept_27 (by decide) ?_
      refine P_istore d_MD_kept_28 (by decide) rfl ?_
      refine P_iconst (v := 0) d_MD_kept_30 (by decide) ?_
      refine P_istore d_MD_kept_31 (by decide) rfl ?_
      refine PW_ind (σ := Int32 × pW) (4) (fun jj ss => I (ss.2) ∧ Fr SN w (ss.2) ∧ MS (nI tp) (nI qs) nq (nI un) ln nl sz at_ pl so vl wo fa fp lf lp ((ss.2).2 467)) (fun jj ss => (33, [(0, .ref 467), (1, .int (nI a1N)), (2, .int j4_2), (3, .int (nI j4)), (4, .int ss.1), (5, .int (nI jj))], [], ss.2)) ?_ ?_ 0 (1, uj4) (by omega) ⟨hIj4, hFj4, ⟨_, _, _, _, emj4⟩⟩
      · rintro ⟨j5_4, uj5⟩ ⟨hIj5, hFj5, ⟨thj5, rmj5, umj5, smj5, emj5⟩⟩
        show PW _ _ _ _ _ _ (33, [(0, .ref 467), (1, .int (nI a1N)), (2, .int j4_2), (3, .int (nI j4)), (4, .int j5_4), (5, .int 4)], [], uj5)
        refine P_iload d_MD_kept_33 rfl ?_
        refine P_iconst (v := 4) d_MD_kept_35 (by decide) ?_
        refine P_icmp_ge 68 d_MD_kept_36 (by decide) (fun _ => ?_) (fun h => absurd (by decide) h)
        refine P_iload_n d_MD_kept_68 rfl ?_
        refine P_iload d_MD_kept_69 rfl ?_
        refine P_if_eq 80 d_MD_kept_71 (by decide) (fun c6 => ?_) (fun c6 => ?_)
        · refine P_iconst (v := 0) d_MD_kept_80 (by decide) ?_
          refine P_ior d_MD_kept_81 ?_
          generalize j4_2 ||| (0 : Int32) = zz7
          show PW _ _ _ _ _ _ (82, [(0, .ref 467), (1, .int (nI a1N)), (2, .int j4_2), (3, .int (nI j4)), (4, .int j5_4), (5, .int 4)], [.int zz7], uj5)
          refine P_istore_n d_MD_kept_82 (by decide) rfl ?_
          refine P_iinc (v := nI (j4 + 1)) d_MD_kept_83 (by decide) rfl (nI_add j4 1) rfl ?_
          refine P_goto 19 d_MD_kept_86 (by decide) ?_
          show PW _ _ _ _ _ _ (19, [(0, .ref 467), (1, .int (nI a1N)), (2, .int zz7), (3, .int (nI (j4 + 1))), (4, .int j5_4), (5, .int 4)], [], uj5)
          refine PW.drop (lv' := [(0, .ref 467), (1, .int (nI a1N)), (2, .int zz7), (3, .int (nI (j4 + 1)))]) (by simp) ?_
          exact kkj4 (zz7, uj5) ⟨hIj5, hFj5, ⟨_, _, _, _, emj5⟩⟩
        · refine P_iconst (v := 1) d_MD_kept_74 (by decide) ?_
          refine P_iload_n d_MD_kept_75 rfl ?_
          refine P_ishl d_MD_kept_76 ?_
          generalize (1 : Int32) <<< ((nI j4) &&& 31) = zz8
          show PW _ _ _ _ _ _ (77, [(0, .ref 467), (1, .int (nI a1N)), (2, .int j4_2), (3, .int (nI j4)), (4, .int j5_4), (5, .int 4)], [.int zz8, .int j4_2], uj5)
          refine P_goto 81 d_MD_kept_77 (by decide) ?_
          refine P_ior d_MD_kept_81 ?_
          generalize j4_2 ||| zz8 = zz9
          show PW _ _ _ _ _ _ (82, [(0, .ref 467), (1, .int (nI a1N)), (2, .int j4_2), (3, .int (nI j4)), (4, .int j5_4), (5, .int 4)], [.int zz9], uj5)
          refine P_istore_n d_MD_kept_82 (by decide) rfl ?_
          refine P_iinc (v := nI (j4 + 1)) d_MD_kept_83 (by decide) rfl (nI_add j4 1) rfl ?_
          refine P_goto 19 d_MD_kept_86 (by decide) ?_
          show PW _ _ _ _ _ _ (19, [(0, .ref 467), (1, .int (nI a1N)), (2, .int zz9), (3, .int (nI (j4 + 1))), (4, .int j5_4), (5, .int 4)], [], uj5)
          refine PW.drop (lv' := [(0, .ref 467), (1, .int (nI a1N)), (2, .int zz9), (3, .int (nI (j4 + 1)))]) (by simp) ?_
          exact kkj4 (zz9, uj5) ⟨hIj5, hFj5, ⟨_, _, _, _, emj5⟩⟩
      · rintro j5 ⟨j5_4, uj5⟩ hj5 ⟨hIj5, hFj5, ⟨thj5, rmj5, umj5, smj5, emj5⟩⟩ kkj5
        show PW _ _ _ _ _ _ (33, [(0, .ref 467), (1, .int (nI a1N)), (2, .int j4_2), (3, .int (nI j4)), (4, .int j5_4), (5, .int (nI j5))], [], uj5)
        refine P_iload d_MD_kept_33 rfl ?_
        refine P_iconst (v := 4) d_MD_kept_35 (by decide) ?_
        refine P_icmp_ge 68 d_MD_kept_36 (by decide) (fun h => absurd h (nI_geF (a := j5) (b := 4) (by omega) (by omega))) (fun _ => ?_)
        refine P_iload d_MD_kept_39 rfl ?_
        refine P_if_eq 59 d_MD_kept_41 (by decide) (fun c10 => ?_) (fun c10 => ?_)
        · refine P_iconst (v := 0) d_MD_kept_59 (by decide) ?_
          refine P_istore d_MD_kept_60 (by decide) rfl ?_
          refine P_iinc (v := nI (j5 + 1)) d_MD_kept_62 (by decide) rfl (nI_add j5 1) rfl ?_
          refine P_goto 33 d_MD_kept_65 (by decide) ?_
          exact kkj5 (0, uj5) ⟨hIj5, hFj5, ⟨_, _, _, _, emj5⟩⟩
        · refine P_aload_n d_MD_kept_44 rfl ?_
          refine P_iload_n d_MD_kept_45 rfl ?_
          refine P_iload_n d_MD_kept_46 rfl ?_
          refine P_iload d_MD_kept_47 rfl ?_
          refine P_callV (M := M_MD_kept) (pc := 49) (as := [.int (nI a1N), .int (nI j4), .int (nI j5)]) (b := 467) d_MD_kept_49 co_MD_sideOfCorner ok_Model emj5 L_MD_319 im_MD_sideOfCorner se_MD_sideOfCorner (s_MD_sideOfCorner a1N (by omega) j4 (by omega) j5 (by omega) emj5 htp hqs hun ((hFj5.2 _ (SN_f (by omega))).trans r469) ((hFj5.2 _ (SN_f (by omega))).trans en) hnm e8 hnp e9) rfl ⟨by decide, by decide⟩ ⟨by decide, by decide⟩ (by exact le_b rfl) ?_ _ rfl
          rintro _ u ⟨⟨v11, rfl⟩, eu⟩
          subst u
          show PW _ _ _ _ _ _ (52, [(0, .ref 467), (1, .int (nI a1N)), (2, .int j4_2), (3, .int (nI j4)), (4, .int j5_4), (5, .int (nI j5))], [.int v11], uj5)
          refine P_if_eq 59 d_MD_kept_52 (by decide) (fun c12 => ?_) (fun c12 => ?_)
          · refine P_iconst (v := 0) d_MD_kept_59 (by decide) ?_
            refine P_istore d_MD_kept_60 (by decide) rfl ?_
            refine P_iinc (v := nI (j5 + 1)) d_MD_kept_62 (by decide) rfl (nI_add j5 1) rfl ?_
            refine P_goto 33 d_MD_kept_65 (by decide) ?_
            exact kkj5 (0, uj5) ⟨hIj5, hFj5, ⟨_, _, _, _, emj5⟩⟩
          · refine P_iconst (v := 1) d_MD_kept_55 (by decide) ?_
            refine P_goto 60 d_MD_kept_56 (by decide) ?_
            refine P_istore d_MD_kept_60 (by decide) rfl ?_
            refine P_iinc (v := nI (j5 + 1)) d_MD_kept_62 (by decide) rfl (nI_add j5 1) rfl ?_
            refine P_goto 33 d_MD_kept_65 (by decide) ?_
            exact kkj5 (1, uj5) ⟨hIj5, hFj5, ⟨_, _, _, _, emj5⟩⟩
  · refine P_iconst (v := (-1)) d_MD_kept_13 (by decide) ?_
    exact P_iret d_MD_kept_14 rfl (le_b rfl) (le_b rfl) ⟨⟨_, rfl⟩, hI1, FrM.of hF1 ⟨_, _, _, _, em⟩ ⟨_, _, _, _, s1⟩⟩
theorem s_MD_kind {G : pG} {w : pW} (hI : I w) (a1 : Int32) : PM G M_MD_kind 2 0 0 [.ref 467, .int a1] w (fun r w' => (∃ v, r = some (.int v)) ∧ I w' ∧ FrM w w') := by
  refine PM_of pn_MD_kind (le_b rfl) ?_
  show PW _ _ _ _ _ _ (0, [(0, .ref 467), (1, .int a1)], [], w)
  obtain ⟨tp, qs, un, nq, ln, nl, sz, at_, pl, so, vl, wo, fa, fp, lf, lp, th, rm, um, sm, htp, hqs, hun, em⟩ := hI.md
  obtain ⟨fn, nm, np, en, hnm, e8, hnp, e9⟩ := hI.now
  refine P_aload_n d_MD_kind_0 rfl ?_
  refine P_iconst (v := 0) d_MD_kind_1 (by decide) ?_
  refine P_putG (i := 0) d_MD_kind_2 ok_Model (by decide) rfl L_MD_74 em (fun _ => rfl) (fun _ => rfl) (fun w1 e1 s1 n1 z1 => ?_)
  have hI1 : I w1 := hI.setM (show w1 = (_, wu _ 467 (mO (nI tp) (nI qs) nq (nI un) ln nl sz at_ pl so vl wo fa fp lf lp 0 rm um sm)) from e1) htp hqs hun
  have hF1 : Fr SN w w1 := Fr.set Fr.rf e1 (SN_t (by omega))
  show PW _ _ _ _ _ _ (5, [(0, .ref 467), (1, .int a1)], [], w1)
  refine P_aload_n d_MD_kind_5 rfl ?_
  refine P_iload_n d_MD_kind_6 rfl ?_
  refine P_callV (M := M_MD_kind) (pc := 7) (as := [.int a1]) (b := 467) d_MD_kind_7 co_MD_isMap ok_Model s1 L_MD_241 im_MD_isMap se_MD_isMap (s_MD_isMap a1 s1 htp hqs hun ((hF1.2 _ (SN_f (by omega))).trans en) hnm e8 hnp e9) rfl ⟨by decide, by decide⟩ ⟨by decide, by decide⟩ (by exact le_b rfl) ?_ _ rfl
  rintro _ u ⟨rfl, eu⟩
  subst u
  show PW _ _ _ _ _ _ (10, [(0, .ref 467), (1, .int a1)], [.int (bi (inN nm a1))], w1)
  refine P_if_ne 15 d_MD_kind_10 (by decide) (fun c3 => ?_) (fun c3 => ?_)
  · obtain ⟨a1N, ha1N, rfl⟩ := inN_of (bi_1 c3) (by omega)
    refine P_aload_n d_MD_kind_15 rfl ?_
    refine P_aload_n d_MD_kind_16 rfl ?_
    refine P_getf (i := 25) d_MD_kind_17 ok_Model (by decide) L_MD_41 s1 rfl ?_
    refine P_iload_n d_MD_kind_20 rfl ?_
    refine P_callV (M := M_MD_kind) (pc := 21) (as := [.ref 476, .int (nI a1N)]) (b := 467) d_MD_kind_21 co_MD_takes ok_Model s1 L_MD_274 im_MD_takes se_MD_takes (s_MD_takes hI1 (by decide) kc_476 (by omega) a1N (by omega)) rfl ⟨by decide, by decide⟩ ⟨by decide, by decide⟩ (by exact le_b rfl) ?_ _ rfl
    rintro _ w4 ⟨rfl, hI4, hG4⟩
    have hF4 : Fr SN w w4 := Fr.tr hF1 hG4.1
    obtain ⟨th4, rm4, um4, sm4, em4⟩ := hG4.2 (nI tp) (nI qs) nq (nI un) ln nl sz at_ pl so vl wo fa fp lf lp ⟨_, _, _, _, s1⟩
    show PW _ _ _ _ _ _ (24, [(0, .ref 467), (1, .int (nI a1N))], [], w4)
    refine P_aload_n d_MD_kind_24 rfl ?_
    obtain ⟨f5, f5e⟩ := hI4.row (r := 476) (by decide) kc_476
    refine P_callV (M := M_MD_kind) (pc := 25) (as := []) (b := 467) d_MD_kind_25 co_MD_kindOfNine ok_Model em4 L_MD_323 im_MD_kindOfNine se_MD_kindOfNine (s_MD_kindOfNine em4 htp hqs hun f5e) rfl ⟨by decide, by decide⟩ ⟨by decide, by decide⟩ (by exact le_b rfl) ?_ _ rfl
    rintro _ u ⟨⟨v6, rfl⟩, eu⟩
    subst u
    show PW _ _ _ _ _ _ (28, [(0, .ref 467), (1, .int (nI a1N))], [.int v6], w4)
    exact P_iret d_MD_kind_28 rfl (le_b rfl) (le_b rfl) ⟨⟨_, rfl⟩, hI4, FrM.of hF4 ⟨_, _, _, _, em⟩ ⟨_, _, _, _, em4⟩⟩
  · refine P_iconst (v := (-1)) d_MD_kind_13 (by decide) ?_
    exact P_iret d_MD_kind_14 rfl (le_b rfl) (le_b rfl) ⟨⟨_, rfl⟩, hI1, FrM.of hF1 ⟨_, _, _, _, em⟩ ⟨_, _, _, _, s1⟩⟩
theorem s_MD_turn {G : pG} {w : pW} (hI : I w) (a1 : Int32) : PM G M_MD_turn 1 0 0 [.ref 467, .int a1] w (fun r w' => (∃ v, r = some (.int v)) ∧ I w' ∧ FrM w w') := by
  refine PM_of pn_MD_turn (le_b rfl) ?_
  show PW _ _ _ _ _ _ (0, [(0, .ref 467), (1, .int a1)], [], w)
  obtain ⟨tp, qs, un, nq, ln, nl, sz, at_, pl, so, vl, wo, fa, fp, lf, lp, th, rm, um, sm, htp, hqs, hun, em⟩ := hI.md
  obtain ⟨fn, nm, np, en, hnm, e8, hnp, e9⟩ := hI.now
  refine P_aload_n d_MD_turn_0 rfl ?_
  refine P_iconst (v := 0) d_MD_turn_1 (by decide) ?_
  refine P_putG (i := 0) d_MD_turn_2 ok_Model (by decide) rfl L_MD_74 em (fun _ => rfl) (fun _ => rfl) (fun w1 e1 s1 n1 z1 => ?_)
  have hI1 : I w1 := hI.setM (show w1 = (_, wu _ 467 (mO (nI tp) (nI qs) nq (nI un) ln nl sz at_ pl so vl wo fa fp lf lp 0 rm um sm)) from e1) htp hqs hun
  have hF1 : Fr SN w w1 := Fr.set Fr.rf e1 (SN_t (by omega))
  show PW _ _ _ _ _ _ (5, [(0, .ref 467), (1, .int a1)], [], w1)
  refine P_aload_n d_MD_turn_5 rfl ?_
  refine P_iload_n d_MD_turn_6 rfl ?_
  refine P_callV (M := M_MD_turn) (pc := 7) (as := [.int a1]) (b := 467) d_MD_turn_7 co_MD_isMap ok_Model s1 L_MD_241 im_MD_isMap se_MD_isMap (s_MD_isMap a1 s1 htp hqs hun ((hF1.2 _ (SN_f (by omega))).trans en) hnm e8 hnp e9) rfl ⟨by decide, by decide⟩ ⟨by decide, by decide⟩ (by exact le_b rfl) ?_ _ rfl
  rintro _ u ⟨rfl, eu⟩
  subst u
  show PW _ _ _ _ _ _ (10, [(0, .ref 467), (1, .int a1)], [.int (bi (inN nm a1))], w1)
  refine P_if_ne 15 d_MD_turn_10 (by decide) (fun c3 => ?_) (fun c3 => ?_)
  · obtain ⟨a1N, ha1N, rfl⟩ := inN_of (bi_1 c3) (by omega)
    refine P_aload_n d_MD_turn_15 rfl ?_
    refine P_aload_n d_MD_turn_16 rfl ?_
    refine P_getf (i := 25) d_MD_turn_17 ok_Model (by decide) L_MD_41 s1 rfl ?_
    refine P_iload_n d_MD_turn_20 rfl ?_
    refine P_callV (M := M_MD_turn) (pc := 21) (as := [.ref 476, .int (nI a1N)]) (b := 467) d_MD_turn_21 co_MD_takes ok_Model s1 L_MD_274 im_MD_takes se_MD_takes (s_MD_takes hI1 (by decide) kc_476 (by omega) a1N (by omega)) rfl ⟨by decide, by decide⟩ ⟨by decide, by decide⟩ (by exact le_b rfl) ?_ _ rfl
    rintro _ w4 ⟨rfl, hI4, hG4⟩
    have hF4 : Fr SN w w4 := Fr.tr hF1 hG4.1
    obtain ⟨th4, rm4, um4, sm4, em4⟩ := hG4.2 (nI tp) (nI qs) nq (nI un) ln nl sz at_ pl so vl wo fa fp lf lp ⟨_, _, _, _, s1⟩
    show PW _ _ _ _ _ _ (24, [(0, .ref 467), (1, .int (nI a1N))], [], w4)
    refine P_iconst (v := 0) d_MD_turn_24 (by decide) ?_
    refine P_istore_n d_MD_turn_25 (by decide) rfl ?_
    refine PW_ind (σ := pW) (9) (fun jj ss => I (ss) ∧ Fr SN w (ss) ∧ MS (nI tp) (nI qs) nq (nI un) ln nl sz at_ pl so vl wo fa fp lf lp ((ss).2 467)) (fun jj ss => (26, [(0, .ref 467), (1, .int (nI a1N)), (2, .int (nI jj))], [], ss)) ?_ ?_ 0 (w4) (by omega) ⟨hI4, hF4, ⟨_, _, _, _, em4⟩⟩
    · rintro uj5 ⟨hIj5, hFj5, ⟨thj5, rmj5, umj5, smj5, emj5⟩⟩
      show PW _ _ _ _ _ _ (26, [(0, .ref 467), (1, .int (nI a1N)), (2, .int 9)], [], uj5)
      refine P_iload_n d_MD_turn_26 rfl ?_
      refine P_bipush (v := 9) d_MD_turn_27 (by decide) ?_
      refine P_icmp_ge 56 d_MD_turn_29 (by decide) (fun _ => ?_) (fun h => absurd (by decide) h)
      refine P_aload_n d_MD_turn_56 rfl ?_
      refine P_getf (i := 26) d_MD_turn_57 ok_Model (by decide) L_MD_44 emj5 rfl ?_
      refine P_aload_n d_MD_turn_60 rfl ?_
      refine P_getf (i := 25) d_MD_turn_61 ok_Model (by decide) L_MD_41 emj5 rfl ?_
      obtain ⟨f6, f6e⟩ := hIj5.row (r := 477) (by decide) kc_477
      obtain ⟨f7, f7e⟩ := hIj5.row (r := 476) (by decide) kc_476
      refine P_callS (M := M_MD_turn) (pc := 64) (as := [.ref 477, .ref 476]) d_MD_turn_64 co_MD_turnsRound L_MD_230 sm_MD_turnsRound (s_MD_turnsRound f6e (by decide) f7e (by decide)) rfl ⟨by decide, by decide⟩ ⟨by decide, by decide⟩ (by exact le_b rfl) ?_ _ rfl
      rintro _ w8 ⟨rfl, g8, e8⟩
      have s8 := w_s e8
      have hI8 : I w8 := hIj5.setL e8 kc_477
      have hF8 : Fr SN w w8 := Fr.set hFj5 e8 (SN_t (by omega))
      show PW _ _ _ _ _ _ (67, [(0, .ref 467), (1, .int (nI a1N)), (2, .int 9)], [], w8)
      refine P_aload_n d_MD_turn_67 rfl ?_
      refine P_getf (i := 25) d_MD_turn_68 ok_Model (by decide) L_MD_41 ((w_n e8 _ (by decide)).trans emj5) rfl ?_
      refine P_iconst (v := 0) d_MD_turn_71 (by decide) ?_
      obtain ⟨f9, f9e⟩ := hI8.row (r := 476) (by decide) kc_476
      refine P_lald (j := 0) d_MD_turn_72 f9e ⟨by decide, by decide⟩ (by decide) ?_
      refine P_aload_n d_MD_turn_73 rfl ?_
      refine P_getf (i := 26) d_MD_turn_74 ok_Model (by decide) L_MD_44 ((w_n e8 _ (by decide)).trans emj5) rfl ?_
      refine P_iconst (v := 0) d_MD_turn_77 (by decide) ?_
      refine P_lald (j := 0) d_MD_turn_78 s8 ⟨by decide, by decide⟩ (by decide) ?_
      refine P_lmul d_MD_turn_79 ?_
      refine P_aload_n d_MD_turn_80 rfl ?_
      refine P_getf (i := 25) d_MD_turn_81 ok_Model (by decide) L_MD_41 ((w_n e8 _ (by decide)).trans emj5) rfl ?_
      refine P_iconst (v := 1) d_MD_turn_84 (by decide) ?_
      refine P_lald (j := 1) d_MD_turn_85 f9e ⟨by decide, by decide⟩ (by decide) ?_
      refine P_aload_n d_MD_turn_86 rfl ?_
      refine P_getf (i := 26) d_MD_turn_87 ok_Model (by decide) L_MD_44 ((w_n e8 _ (by decide)).trans emj5) rfl ?_
      refine P_iconst (v := 3) d_MD_turn_90 (by decide) ?_
      refine P_lald (j := 3) d_MD_turn_91 s8 ⟨by decide, by decide⟩ (by decide) ?_
      refine P_lmul d_MD_turn_92 ?_
      refine P_ladd d_MD_turn_93 ?_
      refine P_aload_n d_MD_turn_94 rfl ?_
      refine P_getf (i := 25) d_MD_turn_95 ok_Model (by decide) L_MD_41 ((w_n e8 _ (by decide)).trans emj5) rfl ?_
      refine P_iconst (v := 2) d_MD_turn_98 (by decide) ?_
      refine P_lald (j := 2) d_MD_turn_99 f9e ⟨by decide, by decide⟩ (by decide) ?_
      refine P_aload_n d_MD_turn_100 rfl ?_
      refine P_getf (i := 26) d_MD_turn_101 ok_Model (by decide) L_MD_44 ((w_n e8 _ (by decide)).trans emj5) rfl ?_
      refine P_bipush (v := 6) d_MD_turn_104 (by decide) ?_
      refine P_lald (j := 6) d_MD_turn_106 s8 ⟨by decide, by decide⟩ (by decide) ?_
      refine P_lmul d_MD_turn_107 ?_
      refine P_ladd d_MD_turn_108 ?_
      refine P_lconst (v := 0) d_MD_turn_109 (by decide) ?_
      refine P_lcmp d_MD_turn_110 ?_
      refine P_if_le 118 d_MD_turn_111 (by decide) (fun c10 => ?_) (fun c10 => ?_)
      · refine P_iconst (v := (-1)) d_MD_turn_118 (by decide) ?_
        exact P_iret d_MD_turn_119 rfl (le_b rfl) (le_b rfl) ⟨⟨_, rfl⟩, hI8, FrM.of hF8 ⟨_, _, _, _, em⟩ ⟨_, _, _, _, ((w_n e8 _ (by decide)).trans emj5)⟩⟩
      · refine P_iconst (v := 1) d_MD_turn_114 (by decide) ?_
        refine P_goto 119 d_MD_turn_115 (by decide) ?_
        exact P_iret d_MD_turn_119 rfl (le_b rfl) (le_b rfl) ⟨⟨_, rfl⟩, hI8, FrM.of hF8 ⟨_, _, _, _, em⟩ ⟨_, _, _, _, ((w_n e8 _ (by decide)).trans emj5)⟩⟩
    · rintro j5 uj5 hj5 ⟨hIj5, hFj5, ⟨thj5, rmj5, umj5, smj5, emj5⟩⟩ kkj5
      show PW _ _ _ _ _ _ (26, [(0, .ref 467), (1, .int (nI a1N)), (2, .int (nI j5))], [], uj5)
      refine P_iload_n d_MD_turn_26 rfl ?_
      refine P_bipush (v := 9) d_MD_turn_27 (by decide) ?_
      refine P_icmp_ge 56 d_MD_turn_29 (by decide) (fun h => absurd h (nI_geF (a := j5) (b := 9) (by omega) (by omega))) (fun _ => ?_)
      refine P_aload_n d_MD_turn_32 rfl ?_
      refine P_getf (i := 25) d_MD_turn_33 ok_Model (by decide) L_MD_41 emj5 rfl ?_
      refine P_iload_n d_MD_turn_36 rfl ?_
      obtain ⟨f11, f11e⟩ := hIj5.row (r := 476) (by decide) kc_476
      refine P_lald (j := j5) d_MD_turn_37 f11e (ix_nI (by omega)) (by omega) ?_
      refine P_mabslZ d_MD_turn_38 L_MD_210 st_abs in_Math cd_abs ⟨by decide, by decide, by decide, by decide⟩ (by exact le_b rfl) (fun zz12 => ?_)
      show PW _ _ _ _ _ _ (41, [(0, .ref 467), (1, .int (nI a1N)), (2, .int (nI j5))], [.long zz12], uj5)
      refine P_ldc2 (v := 1000000) d_MD_turn_41 L_MD_329 ?_
      refine P_lcmp d_MD_turn_44 ?_
      refine P_if_le 50 d_MD_turn_45 (by decide) (fun c13 => ?_) (fun c13 => ?_)
      · refine P_iinc (v := nI (j5 + 1)) d_MD_turn_50 (by decide) rfl (nI_add j5 1) rfl ?_
        refine P_goto 26 d_MD_turn_53 (by decide) ?_
        exact kkj5 (uj5) ⟨hIj5, hFj5, ⟨_, _, _, _, emj5⟩⟩
      · refine P_iconst (v := 2) d_MD_turn_48 (by decide) ?_
        exact P_iret d_MD_turn_49 rfl (le_b rfl) (le_b rfl) ⟨⟨_, rfl⟩, hIj5, FrM.of hFj5 ⟨_, _, _, _, em⟩ ⟨_, _, _, _, emj5⟩⟩
  · refine P_iconst (v := 0) d_MD_turn_13 (by decide) ?_
    exact P_iret d_MD_turn_14 rfl (le_b rfl) (le_b rfl) ⟨⟨_, rfl⟩, hI1, FrM.of hF1 ⟨_, _, _, _, em⟩ ⟨_, _, _, _, s1⟩⟩
theorem s_MD_order {G : pG} {w : pW} (hI : I w) (a1 : Int32) : PM G M_MD_order 4 0 0 [.ref 467, .int a1] w (fun r w' => (∃ v, r = some (.int v)) ∧ I w' ∧ FrM w w') := by
  refine PM_of pn_MD_order (le_b rfl) ?_
  show PW _ _ _ _ _ _ (0, [(0, .ref 467), (1, .int a1)], [], w)
  obtain ⟨tp, qs, un, nq, ln, nl, sz, at_, pl, so, vl, wo, fa, fp, lf, lp, th, rm, um, sm, htp, hqs, hun, em⟩ := hI.md
  obtain ⟨fn, nm, np, en, hnm, e8, hnp, e9⟩ := hI.now
  refine P_aload_n d_MD_order_0 rfl ?_
  refine P_iconst (v := 0) d_MD_order_1 (by decide) ?_
  refine P_putG (i := 0) d_MD_order_2 ok_Model (by decide) rfl L_MD_74 em (fun _ => rfl) (fun _ => rfl) (fun w1 e1 s1 n1 z1 => ?_)
  have hI1 : I w1 := hI.setM (show w1 = (_, wu _ 467 (mO (nI tp) (nI qs) nq (nI un) ln nl sz at_ pl so vl wo fa fp lf lp 0 rm um sm)) from e1) htp hqs hun
  have hF1 : Fr SN w w1 := Fr.set Fr.rf e1 (SN_t (by omega))
  show PW _ _ _ _ _ _ (5, [(0, .ref 467), (1, .int a1)], [], w1)
  refine P_aload_n d_MD_order_5 rfl ?_
  refine P_iload_n d_MD_order_6 rfl ?_
  refine P_callV (M := M_MD_order) (pc := 7) (as := [.int a1]) (b := 467) d_MD_order_7 co_MD_isMap ok_Model s1 L_MD_241 im_MD_isMap se_MD_isMap (s_MD_isMap a1 s1 htp hqs hun ((hF1.2 _ (SN_f (by omega))).trans en) hnm e8 hnp e9) rfl ⟨by decide, by decide⟩ ⟨by decide, by decide⟩ (by exact le_b rfl) ?_ _ rfl
  rintro _ u ⟨rfl, eu⟩
  subst u
  show PW _ _ _ _ _ _ (10, [(0, .ref 467), (1, .int a1)], [.int (bi (inN nm a1))], w1)
  refine P_if_ne 15 d_MD_order_10 (by decide) (fun c3 => ?_) (fun c3 => ?_)
  · obtain ⟨a1N, ha1N, rfl⟩ := inN_of (bi_1 c3) (by omega)
    refine P_aload_n d_MD_order_15 rfl ?_
    refine P_callV (M := M_MD_order) (pc := 16) (as := []) (b := 467) d_MD_order_16 co_MD_nothing ok_Model s1 L_MD_283 im_MD_nothing se_MD_nothing (s_MD_nothing hI1) rfl ⟨by decide, by decide⟩ ⟨by decide, by decide⟩ (by exact le_b rfl) ?_ _ rfl
    rintro _ w4 ⟨rfl, hI4, hG4⟩
    have hF4 : Fr SN w w4 := Fr.tr hF1 hG4.1
    obtain ⟨th4, rm4, um4, sm4, em4⟩ := hG4.2 (nI tp) (nI qs) nq (nI un) ln nl sz at_ pl so vl wo fa fp lf lp ⟨_, _, _, _, s1⟩
    show PW _ _ _ _ _ _ (19, [(0, .ref 467), (1, .int (nI a1N))], [], w4)
    refine P_iconst (v := 1) d_MD_order_19 (by decide) ?_
    refine P_istore_n d_MD_order_20 (by decide) rfl ?_
    refine PW_ind (σ := pW) (13) (fun jj ss => I (ss) ∧ Fr SN w (ss) ∧ MS (nI tp) (nI qs) nq (nI un) ln nl sz at_ pl so vl wo fa fp lf lp ((ss).2 467)) (fun jj ss => (21, [(0, .ref 467), (1, .int (nI a1N)), (2, .int (nI jj))], [], ss)) ?_ ?_ 1 (w4) (by omega) ⟨hI4, hF4, ⟨_, _, _, _, em4⟩⟩
    · rintro uj5 ⟨hIj5, hFj5, ⟨thj5, rmj5, umj5, smj5, emj5⟩⟩
      show PW _ _ _ _ _ _ (21, [(0, .ref 467), (1, .int (nI a1N)), (2, .int 13)], [], uj5)
      refine P_iload_n d_MD_order_21 rfl ?_
      refine P_bipush (v := 12) d_MD_order_22 (by decide) ?_
      refine P_icmp_gt 53 d_MD_order_24 (by decide) (fun _ => ?_) (fun h => absurd (by decide) h)
      refine P_bipush (v := (-2)) d_MD_order_53 (by decide) ?_
      exact P_iret d_MD_order_55 rfl (le_b rfl) (le_b rfl) ⟨⟨_, rfl⟩, hIj5, FrM.of hFj5 ⟨_, _, _, _, em⟩ ⟨_, _, _, _, emj5⟩⟩
    · rintro j5 uj5 hj5 ⟨hIj5, hFj5, ⟨thj5, rmj5, umj5, smj5, emj5⟩⟩ kkj5
      show PW _ _ _ _ _ _ (21, [(0, .ref 467), (1, .int (nI a1N)), (2, .int (nI j5))], [], uj5)
      refine P_iload_n d_MD_order_21 rfl ?_
      refine P_bipush (v := 12) d_MD_order_22 (by decide) ?_
      refine P_icmp_gt 53 d_MD_order_24 (by decide) (fun h => absurd h (nI_gtF (a := j5) (b := 12) (by omega) (by omega))) (fun _ => ?_)
      refine P_aload_n d_MD_order_27 rfl ?_
      refine P_iload_n d_MD_order_28 rfl ?_
      refine P_callV (M := M_MD_order) (pc := 29) (as := [.int (nI a1N)]) (b := 467) d_MD_order_29 co_MD_goesOn ok_Model emj5 L_MD_286 im_MD_goesOn se_MD_goesOn (s_MD_goesOn hIj5 a1N (by omega)) rfl ⟨by decide, by decide⟩ ⟨by decide, by decide⟩ (by exact le_b rfl) ?_ _ rfl
      rintro _ w6 ⟨⟨v6, rfl⟩, hI6, hG6⟩
      have hF6 : Fr SN w w6 := Fr.tr hFj5 hG6.1
      obtain ⟨th6, rm6, um6, sm6, em6⟩ := hG6.2 (nI tp) (nI qs) nq (nI un) ln nl sz at_ pl so vl wo fa fp lf lp ⟨_, _, _, _, emj5⟩
      show PW _ _ _ _ _ _ (32, [(0, .ref 467), (1, .int (nI a1N)), (2, .int (nI j5))], [.int (bi v6)], w6)
      refine P_if_ne 38 d_MD_order_32 (by decide) (fun c7 => ?_) (fun c7 => ?_)
      · refine P_aload_n d_MD_order_38 rfl ?_
        obtain ⟨f8, f8e⟩ := hI6.row (r := 476) (by decide) kc_476
        refine P_callV (M := M_MD_order) (pc := 39) (as := []) (b := 467) d_MD_order_39 co_MD_isNothing ok_Model em6 L_MD_326 im_MD_isNothing se_MD_isNothing (s_MD_isNothing em6 htp hqs hun f8e) rfl ⟨by decide, by decide⟩ ⟨by decide, by decide⟩ (by exact le_b rfl) ?_ _ rfl
        rintro _ u ⟨⟨v9, rfl⟩, eu⟩
        subst u
        show PW _ _ _ _ _ _ (42, [(0, .ref 467), (1, .int (nI a1N)), (2, .int (nI j5))], [.int (bi v9)], w6)
        refine P_if_eq 47 d_MD_order_42 (by decide) (fun c10 => ?_) (fun c10 => ?_)
        · refine P_iinc (v := nI (j5 + 1)) d_MD_order_47 (by decide) rfl (nI_add j5 1) rfl ?_
          refine P_goto 21 d_MD_order_50 (by decide) ?_
          exact kkj5 (w6) ⟨hI6, hF6, ⟨_, _, _, _, em6⟩⟩
        · refine P_iload_n d_MD_order_45 rfl ?_
          exact P_iret d_MD_order_46 rfl (le_b rfl) (le_b rfl) ⟨⟨_, rfl⟩, hI6, FrM.of hF6 ⟨_, _, _, _, em⟩ ⟨_, _, _, _, em6⟩⟩
      · refine P_bipush (v := (-2)) d_MD_order_35 (by decide) ?_
        exact P_iret d_MD_order_37 rfl (le_b rfl) (le_b rfl) ⟨⟨_, rfl⟩, hI6, FrM.of hF6 ⟨_, _, _, _, em⟩ ⟨_, _, _, _, em6⟩⟩
  · refine P_iconst (v := (-1)) d_MD_order_13 (by decide) ?_
    exact P_iret d_MD_order_14 rfl (le_b rfl) (le_b rfl) ⟨⟨_, rfl⟩, hI1, FrM.of hF1 ⟨_, _, _, _, em⟩ ⟨_, _, _, _, s1⟩⟩
theorem s_MD_same {G : pG} {w : pW} (hI : I w) (a1 : Int32) (a2 : Int32) : PM G M_MD_same 1 0 0 [.ref 467, .int a1, .int a2] w (fun r w' => (∃ v, r = some (.int v)) ∧ I w' ∧ FrM w w') := by
  refine PM_of pn_MD_same (le_b rfl) ?_
  show PW _ _ _ _ _ _ (0, [(0, .ref 467), (1, .int a1), (2, .int a2)], [], w)
  obtain ⟨tp, qs, un, nq, ln, nl, sz, at_, pl, so, vl, wo, fa, fp, lf, lp, th, rm, um, sm, htp, hqs, hun, em⟩ := hI.md
  obtain ⟨fn, nm, np, en, hnm, e8, hnp, e9⟩ := hI.now
  refine P_aload_n d_MD_same_0 rfl ?_
  refine P_iconst (v := 0) d_MD_same_1 (by decide) ?_
  refine P_putG (i := 0) d_MD_same_2 ok_Model (by decide) rfl L_MD_74 em (fun _ => rfl) (fun _ => rfl) (fun w1 e1 s1 n1 z1 => ?_)
  have hI1 : I w1 := hI.setM (show w1 = (_, wu _ 467 (mO (nI tp) (nI qs) nq (nI un) ln nl sz at_ pl so vl wo fa fp lf lp 0 rm um sm)) from e1) htp hqs hun
  have hF1 : Fr SN w w1 := Fr.set Fr.rf e1 (SN_t (by omega))
  show PW _ _ _ _ _ _ (5, [(0, .ref 467), (1, .int a1), (2, .int a2)], [], w1)
  refine P_aload_n d_MD_same_5 rfl ?_
  refine P_iload_n d_MD_same_6 rfl ?_
  refine P_callV (M := M_MD_same) (pc := 7) (as := [.int a1]) (b := 467) d_MD_same_7 co_MD_isMap ok_Model s1 L_MD_241 im_MD_isMap se_MD_isMap (s_MD_isMap a1 s1 htp hqs hun ((hF1.2 _ (SN_f (by omega))).trans en) hnm e8 hnp e9) rfl ⟨by decide, by decide⟩ ⟨by decide, by decide⟩ (by exact le_b rfl) ?_ _ rfl
  rintro _ u ⟨rfl, eu⟩
  subst u
  show PW _ _ _ _ _ _ (10, [(0, .ref 467), (1, .int a1), (2, .int a2)], [.int (bi (inN nm a1))], w1)
  refine P_if_eq 21 d_MD_same_10 (by decide) (fun c3 => ?_) (fun c3 => ?_)
  · refine P_iconst (v := (-1)) d_MD_same_21 (by decide) ?_
    exact P_iret d_MD_same_22 rfl (le_b rfl) (le_b rfl) ⟨⟨_, rfl⟩, hI1, FrM.of hF1 ⟨_, _, _, _, em⟩ ⟨_, _, _, _, s1⟩⟩
  · obtain ⟨a1N, ha1N, rfl⟩ := inN_of (bi_1 c3) (by omega)
    refine P_aload_n d_MD_same_13 rfl ?_
    refine P_iload_n d_MD_same_14 rfl ?_
    refine P_callV (M := M_MD_same) (pc := 15) (as := [.int a2]) (b := 467) d_MD_same_15 co_MD_isMap ok_Model s1 L_MD_241 im_MD_isMap se_MD_isMap (s_MD_isMap a2 s1 htp hqs hun ((hF1.2 _ (SN_f (by omega))).trans en) hnm e8 hnp e9) rfl ⟨by decide, by decide⟩ ⟨by decide, by decide⟩ (by exact le_b rfl) ?_ _ rfl
    rintro _ u ⟨rfl, eu⟩
    subst u
    show PW _ _ _ _ _ _ (18, [(0, .ref 467), (1, .int (nI a1N)), (2, .int a2)], [.int (bi (inN nm a2))], w1)
    refine P_if_ne 23 d_MD_same_18 (by decide) (fun c5 => ?_) (fun c5 => ?_)
    · obtain ⟨a2N, ha2N, rfl⟩ := inN_of (bi_1 c5) (by omega)
      refine P_aload_n d_MD_same_23 rfl ?_
      refine P_aload_n d_MD_same_24 rfl ?_
      refine P_getf (i := 25) d_MD_same_25 ok_Model (by decide) L_MD_41 s1 rfl ?_
      refine P_iload_n d_MD_same_28 rfl ?_
      refine P_callV (M := M_MD_same) (pc := 29) (as := [.ref 476, .int (nI a1N)]) (b := 467) d_MD_same_29 co_MD_takes ok_Model s1 L_MD_274 im_MD_takes se_MD_takes (s_MD_takes hI1 (by decide) kc_476 (by omega) a1N (by omega)) rfl ⟨by decide, by decide⟩ ⟨by decide, by decide⟩ (by exact le_b rfl) ?_ _ rfl
      rintro _ w6 ⟨rfl, hI6, hG6⟩
      have hF6 : Fr SN w w6 := Fr.tr hF1 hG6.1
      obtain ⟨th6, rm6, um6, sm6, em6⟩ := hG6.2 (nI tp) (nI qs) nq (nI un) ln nl sz at_ pl so vl wo fa fp lf lp ⟨_, _, _, _, s1⟩
      show PW _ _ _ _ _ _ (32, [(0, .ref 467), (1, .int (nI a1N)), (2, .int (nI a2N))], [], w6)
      refine P_aload_n d_MD_same_32 rfl ?_
      refine P_iload_n d_MD_same_33 rfl ?_
      obtain ⟨f7, f7e⟩ := hI6.row (r := 476) (by decide) kc_476
      refine P_callV (M := M_MD_same) (pc := 34) (as := [.int (nI a2N)]) (b := 467) d_MD_same_34 co_MD_isLike ok_Model em6 L_MD_331 im_MD_isLike se_MD_isLike (s_MD_isLike a2N (by omega) em6 htp hqs hun ((hF6.2 _ (SN_f (by omega))).trans en) hnm e8 hnp e9 f7e) rfl ⟨by decide, by decide⟩ ⟨by decide, by decide⟩ (by exact le_b rfl) ?_ _ rfl
      rintro _ u ⟨⟨v8, rfl⟩, eu⟩
      subst u
      show PW _ _ _ _ _ _ (37, [(0, .ref 467), (1, .int (nI a1N)), (2, .int (nI a2N))], [.int (bi v8)], w6)
      refine P_if_eq 44 d_MD_same_37 (by decide) (fun c9 => ?_) (fun c9 => ?_)
      · refine P_iconst (v := 0) d_MD_same_44 (by decide) ?_
        exact P_iret d_MD_same_45 rfl (le_b rfl) (le_b rfl) ⟨⟨_, rfl⟩, hI6, FrM.of hF6 ⟨_, _, _, _, em⟩ ⟨_, _, _, _, em6⟩⟩
      · refine P_iconst (v := 1) d_MD_same_40 (by decide) ?_
        refine P_goto 45 d_MD_same_41 (by decide) ?_
        exact P_iret d_MD_same_45 rfl (le_b rfl) (le_b rfl) ⟨⟨_, rfl⟩, hI6, FrM.of hF6 ⟨_, _, _, _, em⟩ ⟨_, _, _, _, em6⟩⟩
    · refine P_iconst (v := (-1)) d_MD_same_21 (by decide) ?_
      exact P_iret d_MD_same_22 rfl (le_b rfl) (le_b rfl) ⟨⟨_, rfl⟩, hI1, FrM.of hF1 ⟨_, _, _, _, em⟩ ⟨_, _, _, _, s1⟩⟩
theorem s_MD_commute {G : pG} {w : pW} (hI : I w) (a1 : Int32) (a2 : Int32) : PM G M_MD_commute 4 0 0 [.ref 467, .int a1, .int a2] w (fun r w' => (∃ v, r = some (.int v)) ∧ I w' ∧ FrM w w') := by
  refine PM_of pn_MD_commute (le_b rfl) ?_
  show PW _ _ _ _ _ _ (0, [(0, .ref 467), (1, .int a1), (2, .int a2)], [], w)
  obtain ⟨tp, qs, un, nq, ln, nl, sz, at_, pl, so, vl, wo, fa, fp, lf, lp, th, rm, um, sm, htp, hqs, hun, em⟩ := hI.md
  obtain ⟨fn, nm, np, en, hnm, e8, hnp, e9⟩ := hI.now
  refine P_aload_n d_MD_commute_0 rfl ?_
  refine P_iconst (v := 0) d_MD_commute_1 (by decide) ?_
  refine P_putG (i := 0) d_MD_commute_2 ok_Model (by decide) rfl L_MD_74 em (fun _ => rfl) (fun _ => rfl) (fun w1 e1 s1 n1 z1 => ?_)
  have hI1 : I w1 := hI.setM (show w1 = (_, wu _ 467 (mO (nI tp) (nI qs) nq (nI un) ln nl sz at_ pl so vl wo fa fp lf lp 0 rm um sm)) from e1) htp hqs hun
  have hF1 : Fr SN w w1 := Fr.set Fr.rf e1 (SN_t (by omega))
  show PW _ _ _ _ _ _ (5, [(0, .ref 467), (1, .int a1), (2, .int a2)], [], w1)
  refine P_aload_n d_MD_commute_5 rfl ?_
  refine P_iload_n d_MD_commute_6 rfl ?_
  refine P_callV (M := M_MD_commute) (pc := 7) (as := [.int a1]) (b := 467) d_MD_commute_7 co_MD_isMap ok_Model s1 L_MD_241 im_MD_isMap se_MD_isMap (s_MD_isMap a1 s1 htp hqs hun ((hF1.2 _ (SN_f (by omega))).trans en) hnm e8 hnp e9) rfl ⟨by decide, by decide⟩ ⟨by decide, by decide⟩ (by exact le_b rfl) ?_ _ rfl
  rintro _ u ⟨rfl, eu⟩
  subst u
  show PW _ _ _ _ _ _ (10, [(0, .ref 467), (1, .int a1), (2, .int a2)], [.int (bi (inN nm a1))], w1)
  refine P_if_eq 21 d_MD_commute_10 (by decide) (fun c3 => ?_) (fun c3 => ?_)
  · refine P_iconst (v := (-1)) d_MD_commute_21 (by decide) ?_
    exact P_iret d_MD_commute_22 rfl (le_b rfl) (le_b rfl) ⟨⟨_, rfl⟩, hI1, FrM.of hF1 ⟨_, _, _, _, em⟩ ⟨_, _, _, _, s1⟩⟩
  · obtain ⟨a1N, ha1N, rfl⟩ := inN_of (bi_1 c3) (by omega)
    refine P_aload_n d_MD_commute_13 rfl ?_
    refine P_iload_n d_MD_commute_14 rfl ?_
    refine P_callV (M := M_MD_commute) (pc := 15) (as := [.int a2]) (b := 467) d_MD_commute_15 co_MD_isMap ok_Model s1 L_MD_241 im_MD_isMap se_MD_isMap (s_MD_isMap a2 s1 htp hqs hun ((hF1.2 _ (SN_f (by omega))).trans en) hnm e8 hnp e9) rfl ⟨by decide, by decide⟩ ⟨by decide, by decide⟩ (by exact le_b rfl) ?_ _ rfl
    rintro _ u ⟨rfl, eu⟩
    subst u
    show PW _ _ _ _ _ _ (18, [(0, .ref 467), (1, .int (nI a1N)), (2, .int a2)], [.int (bi (inN nm a2))], w1)
    refine P_if_ne 23 d_MD_commute_18 (by decide) (fun c5 => ?_) (fun c5 => ?_)
    · obtain ⟨a2N, ha2N, rfl⟩ := inN_of (bi_1 c5) (by omega)
      refine P_aload_n d_MD_commute_23 rfl ?_
      refine P_iload_n d_MD_commute_24 rfl ?_
      refine P_iload_n d_MD_commute_25 rfl ?_
      refine P_callV (M := M_MD_commute) (pc := 26) (as := [.int (nI a1N), .int (nI a2N)]) (b := 467) d_MD_commute_26 co_MD_laysProduct ok_Model s1 L_MD_277 im_MD_laysProduct se_MD_laysProduct (s_MD_laysProduct hI1 a1N (by omega) a2N (by omega)) rfl ⟨by decide, by decide⟩ ⟨by decide, by decide⟩ (by exact le_b rfl) ?_ _ rfl
      rintro _ w6 ⟨rfl, hI6, hG6⟩
      have hF6 : Fr SN w w6 := Fr.tr hF1 hG6.1
      obtain ⟨th6, rm6, um6, sm6, em6⟩ := hG6.2 (nI tp) (nI qs) nq (nI un) ln nl sz at_ pl so vl wo fa fp lf lp ⟨_, _, _, _, s1⟩
      show PW _ _ _ _ _ _ (29, [(0, .ref 467), (1, .int (nI a1N)), (2, .int (nI a2N))], [], w6)
      refine P_iconst (v := 0) d_MD_commute_29 (by decide) ?_
      refine P_istore_n d_MD_commute_30 (by decide) rfl ?_
      refine PW_ind (σ := pW) (9) (fun jj ss => I (ss) ∧ Fr SN w (ss) ∧ MS (nI tp) (nI qs) nq (nI un) ln nl sz at_ pl so vl wo fa fp lf lp ((ss).2 467)) (fun jj ss => (31, [(0, .ref 467), (1, .int (nI a1N)), (2, .int (nI a2N)), (3, .int (nI jj))], [], ss)) ?_ ?_ 0 (w6) (by omega) ⟨hI6, hF6, ⟨_, _, _, _, em6⟩⟩
      · rintro uj7 ⟨hIj7, hFj7, ⟨thj7, rmj7, umj7, smj7, emj7⟩⟩
        show PW _ _ _ _ _ _ (31, [(0, .ref 467), (1, .int (nI a1N)), (2, .int (nI a2N)), (3, .int 9)], [], uj7)
        refine P_iload_n d_MD_commute_31 rfl ?_
        refine P_bipush (v := 9) d_MD_commute_32 (by decide) ?_
        refine P_icmp_ge 55 d_MD_commute_34 (by decide) (fun _ => ?_) (fun h => absurd (by decide) h)
        refine P_aload_n d_MD_commute_55 rfl ?_
        refine P_iload_n d_MD_commute_56 rfl ?_
        refine P_iload_n d_MD_commute_57 rfl ?_
        refine P_callV (M := M_MD_commute) (pc := 58) (as := [.int (nI a2N), .int (nI a1N)]) (b := 467) d_MD_commute_58 co_MD_laysProduct ok_Model emj7 L_MD_277 im_MD_laysProduct se_MD_laysProduct (s_MD_laysProduct hIj7 a2N (by omega) a1N (by omega)) rfl ⟨by decide, by decide⟩ ⟨by decide, by decide⟩ (by exact le_b rfl) ?_ _ rfl
        rintro _ w8 ⟨rfl, hI8, hG8⟩
        have hF8 : Fr SN w w8 := Fr.tr hFj7 hG8.1
        obtain ⟨th8, rm8, um8, sm8, em8⟩ := hG8.2 (nI tp) (nI qs) nq (nI un) ln nl sz at_ pl so vl wo fa fp lf lp ⟨_, _, _, _, emj7⟩
        show PW _ _ _ _ _ _ (61, [(0, .ref 467), (1, .int (nI a1N)), (2, .int (nI a2N)), (3, .int 9)], [], w8)
        refine P_iconst (v := 1) d_MD_commute_61 (by decide) ?_
        refine P_istore_n d_MD_commute_62 (by decide) rfl ?_
        refine P_iconst (v := 0) d_MD_commute_63 (by decide) ?_
        refine P_istore d_MD_commute_64 (by decide) rfl ?_
        refine PW_ind (σ := Int32 × pW) (9) (fun jj ss => I (ss.2) ∧ Fr SN w (ss.2) ∧ MS (nI tp) (nI qs) nq (nI un) ln nl sz at_ pl so vl wo fa fp lf lp ((ss.2).2 467)) (fun jj ss => (66, [(0, .ref 467), (1, .int (nI a1N)), (2, .int (nI a2N)), (3, .int ss.1), (4, .int (nI jj))], [], ss.2)) ?_ ?_ 0 (1, w8) (by omega) ⟨hI8, hF8, ⟨_, _, _, _, em8⟩⟩
        · rintro ⟨j9_3, uj9⟩ ⟨hIj9, hFj9, ⟨thj9, rmj9, umj9, smj9, emj9⟩⟩
          show PW _ _ _ _ _ _ (66, [(0, .ref 467), (1, .int (nI a1N)), (2, .int (nI a2N)), (3, .int j9_3), (4, .int 9)], [], uj9)
          refine P_iload d_MD_commute_66 rfl ?_
          refine P_bipush (v := 9) d_MD_commute_68 (by decide) ?_
          refine P_icmp_ge 107 d_MD_commute_70 (by decide) (fun _ => ?_) (fun h => absurd (by decide) h)
          refine P_iload_n d_MD_commute_107 rfl ?_
          refine P_if_eq 115 d_MD_commute_108 (by decide) (fun c10 => ?_) (fun c10 => ?_)
          · refine P_iconst (v := 0) d_MD_commute_115 (by decide) ?_
            exact P_iret d_MD_commute_116 rfl (le_b rfl) (le_b rfl) ⟨⟨_, rfl⟩, hIj9, FrM.of hFj9 ⟨_, _, _, _, em⟩ ⟨_, _, _, _, emj9⟩⟩
          · refine P_iconst (v := 1) d_MD_commute_111 (by decide) ?_
            refine P_goto 116 d_MD_commute_112 (by decide) ?_
            exact P_iret d_MD_commute_116 rfl (le_b rfl) (le_b rfl) ⟨⟨_, rfl⟩, hIj9, FrM.of hFj9 ⟨_, _, _, _, em⟩ ⟨_, _, _, _, emj9⟩⟩
        · rintro j9 ⟨j9_3, uj9⟩ hj9 ⟨hIj9, hFj9, ⟨thj9, rmj9, umj9, smj9, emj9⟩⟩ kkj9
          show PW _ _ _ _ _ _ (66, [(0, .ref 467), (1, .int (nI a1N)), (2, .int (nI a2N)), (3, .int j9_3), (4, .int (nI j9))], [], uj9)
          refine P_iload d_MD_commute_66 rfl ?_
          refine P_bipush (v := 9) d_MD_commute_68 (by decide) ?_
          refine P_icmp_ge 107 d_MD_commute_70 (by decide) (fun h => absurd h (nI_geF (a := j9) (b := 9) (by omega) (by omega))) (fun _ => ?_)
          refine P_iload_n d_MD_commute_73 rfl ?_
          refine P_if_eq 99 d_MD_commute_74 (by decide) (fun c11 => ?_) (fun c11 => ?_)
          · refine P_iconst (v := 0) d_MD_commute_99 (by decide) ?_
            refine P_istore_n d_MD_commute_100 (by decide) rfl ?_
            refine P_iinc (v := nI (j9 + 1)) d_MD_commute_101 (by decide) rfl (nI_add j9 1) rfl ?_
            refine P_goto 66 d_MD_commute_104 (by decide) ?_
            exact kkj9 (0, uj9) ⟨hIj9, hFj9, ⟨_, _, _, _, emj9⟩⟩
          · refine P_aload_n d_MD_commute_77 rfl ?_
            refine P_getf (i := 31) d_MD_commute_78 ok_Model (by decide) L_MD_59 emj9 rfl ?_
            refine P_iload d_MD_commute_81 rfl ?_
            obtain ⟨f12, f12e⟩ := hIj9.row (r := 482) (by decide) kc_482
            refine P_lald (j := j9) d_MD_commute_83 f12e (ix_nI (by omega)) (by omega) ?_
            refine P_aload_n d_MD_commute_84 rfl ?_
            refine P_getf (i := 25) d_MD_commute_85 ok_Model (by decide) L_MD_41 emj9 rfl ?_
            refine P_iload d_MD_commute_88 rfl ?_
            obtain ⟨f13, f13e⟩ := hIj9.row (r := 476) (by decide) kc_476
            refine P_lald (j := j9) d_MD_commute_90 f13e (ix_nI (by omega)) (by omega) ?_
            refine P_lcmp d_MD_commute_91 ?_
            refine P_if_ne 99 d_MD_commute_92 (by decide) (fun c14 => ?_) (fun c14 => ?_)
            · refine P_iconst (v := 0) d_MD_commute_99 (by decide) ?_
              refine P_istore_n d_MD_commute_100 (by decide) rfl ?_
              refine P_iinc (v := nI (j9 + 1)) d_MD_commute_101 (by decide) rfl (nI_add j9 1) rfl ?_
              refine P_goto 66 d_MD_commute_104 (by decide) ?_
              exact kkj9 (0, uj9) ⟨hIj9, hFj9, ⟨_, _, _, _, emj9⟩⟩
            · refine P_iconst (v := 1) d_MD_commute_95 (by decide) ?_
              refine P_goto 100 d_MD_commute_96 (by decide) ?_
              refine P_istore_n d_MD_commute_100 (by decide) rfl ?_
              refine P_iinc (v := nI (j9 + 1)) d_MD_commute_101 (by decide) rfl (nI_add j9 1) rfl ?_
              refine P_goto 66 d_MD_commute_104 (by decide) ?_
              exact kkj9 (1, uj9) ⟨hIj9, hFj9, ⟨_, _, _, _, emj9⟩⟩
      · rintro j7 uj7 hj7 ⟨hIj7, hFj7, ⟨thj7, rmj7, umj7, smj7, emj7⟩⟩ kkj7
        show PW _ _ _ _ _ _ (31, [(0, .ref 467), (1, .int (nI a1N)), (2, .int (nI a2N)), (3, .int (nI j7))], [], uj7)
        refine P_iload_n d_MD_commute_31 rfl ?_
        refine P_bipush (v := 9) d_MD_commute_32 (by decide) ?_
        refine P_icmp_ge 55 d_MD_commute_34 (by decide) (fun h => absurd h (nI_geF (a := j7) (b := 9) (by omega) (by omega))) (fun _ => ?_)
        refine P_aload_n d_MD_commute_37 rfl ?_
        refine P_getf (i := 31) d_MD_commute_38 ok_Model (by decide) L_MD_59 emj7 rfl ?_
        refine P_iload_n d_MD_commute_41 rfl ?_
        refine P_aload_n d_MD_commute_42 rfl ?_
        refine P_getf (i := 25) d_MD_commute_43 ok_Model (by decide) L_MD_41 emj7 rfl ?_
        refine P_iload_n d_MD_commute_46 rfl ?_
        obtain ⟨f15, f15e⟩ := hIj7.row (r := 476) (by decide) kc_476
        refine P_lald (j := j7) d_MD_commute_47 f15e (ix_nI (by omega)) (by omega) ?_
        obtain ⟨f16, f16e⟩ := hIj7.row (r := 482) (by decide) kc_482
        refine P_lastG (j := j7) d_MD_commute_48 f16e (by decide) (ix_nI (by omega)) (by omega) (fun w17 e17 s17 n17 z17 => ?_)
        generalize vp_updL _ _ _ = g18 at e17 s17
        have hI17 : I w17 := hIj7.setL e17 kc_482
        have hF17 : Fr SN w w17 := Fr.set hFj7 e17 (SN_t (by omega))
        show PW _ _ _ _ _ _ (49, [(0, .ref 467), (1, .int (nI a1N)), (2, .int (nI a2N)), (3, .int (nI j7))], [], w17)
        refine P_iinc (v := nI (j7 + 1)) d_MD_commute_49 (by decide) rfl (nI_add j7 1) rfl ?_
        refine P_goto 31 d_MD_commute_52 (by decide) ?_
        exact kkj7 (w17) ⟨hI17, hF17, ⟨_, _, _, _, ((w_n e17 _ (by decide)).trans emj7)⟩⟩
    · refine P_iconst (v := (-1)) d_MD_commute_21 (by decide) ?_
      exact P_iret d_MD_commute_22 rfl (le_b rfl) (le_b rfl) ⟨⟨_, rfl⟩, hI1, FrM.of hF1 ⟨_, _, _, _, em⟩ ⟨_, _, _, _, s1⟩⟩
theorem s_MD_undoes {G : pG} {w : pW} (hI : I w) (a1 : Int32) (a2 : Int32) : PM G M_MD_undoes 4 0 0 [.ref 467, .int a1, .int a2] w (fun r w' => (∃ v, r = some (.int v)) ∧ I w' ∧ FrM w w') := by
  refine PM_of pn_MD_undoes (le_b rfl) ?_
  show PW _ _ _ _ _ _ (0, [(0, .ref 467), (1, .int a1), (2, .int a2)], [], w)
  obtain ⟨tp, qs, un, nq, ln, nl, sz, at_, pl, so, vl, wo, fa, fp, lf, lp, th, rm, um, sm, htp, hqs, hun, em⟩ := hI.md
  obtain ⟨fn, nm, np, en, hnm, e8, hnp, e9⟩ := hI.now
  refine P_aload_n d_MD_undoes_0 rfl ?_
  refine P_iconst (v := 0) d_MD_undoes_1 (by decide) ?_
  refine P_putG (i := 0) d_MD_undoes_2 ok_Model (by decide) rfl L_MD_74 em (fun _ => rfl) (fun _ => rfl) (fun w1 e1 s1 n1 z1 => ?_)
  have hI1 : I w1 := hI.setM (show w1 = (_, wu _ 467 (mO (nI tp) (nI qs) nq (nI un) ln nl sz at_ pl so vl wo fa fp lf lp 0 rm um sm)) from e1) htp hqs hun
  have hF1 : Fr SN w w1 := Fr.set Fr.rf e1 (SN_t (by omega))
  show PW _ _ _ _ _ _ (5, [(0, .ref 467), (1, .int a1), (2, .int a2)], [], w1)
  refine P_aload_n d_MD_undoes_5 rfl ?_
  refine P_iload_n d_MD_undoes_6 rfl ?_
  refine P_callV (M := M_MD_undoes) (pc := 7) (as := [.int a1]) (b := 467) d_MD_undoes_7 co_MD_isMap ok_Model s1 L_MD_241 im_MD_isMap se_MD_isMap (s_MD_isMap a1 s1 htp hqs hun ((hF1.2 _ (SN_f (by omega))).trans en) hnm e8 hnp e9) rfl ⟨by decide, by decide⟩ ⟨by decide, by decide⟩ (by exact le_b rfl) ?_ _ rfl
  rintro _ u ⟨rfl, eu⟩
  subst u
  show PW _ _ _ _ _ _ (10, [(0, .ref 467), (1, .int a1), (2, .int a2)], [.int (bi (inN nm a1))], w1)
  refine P_if_eq 21 d_MD_undoes_10 (by decide) (fun c3 => ?_) (fun c3 => ?_)
  · refine P_iconst (v := (-1)) d_MD_undoes_21 (by decide) ?_
    exact P_iret d_MD_undoes_22 rfl (le_b rfl) (le_b rfl) ⟨⟨_, rfl⟩, hI1, FrM.of hF1 ⟨_, _, _, _, em⟩ ⟨_, _, _, _, s1⟩⟩
  · obtain ⟨a1N, ha1N, rfl⟩ := inN_of (bi_1 c3) (by omega)
    refine P_aload_n d_MD_undoes_13 rfl ?_
    refine P_iload_n d_MD_undoes_14 rfl ?_
    refine P_callV (M := M_MD_undoes) (pc := 15) (as := [.int a2]) (b := 467) d_MD_undoes_15 co_MD_isMap ok_Model s1 L_MD_241 im_MD_isMap se_MD_isMap (s_MD_isMap a2 s1 htp hqs hun ((hF1.2 _ (SN_f (by omega))).trans en) hnm e8 hnp e9) rfl ⟨by decide, by decide⟩ ⟨by decide, by decide⟩ (by exact le_b rfl) ?_ _ rfl
    rintro _ u ⟨rfl, eu⟩
    subst u
    show PW _ _ _ _ _ _ (18, [(0, .ref 467), (1, .int (nI a1N)), (2, .int a2)], [.int (bi (inN nm a2))], w1)
    refine P_if_ne 23 d_MD_undoes_18 (by decide) (fun c5 => ?_) (fun c5 => ?_)
    · obtain ⟨a2N, ha2N, rfl⟩ := inN_of (bi_1 c5) (by omega)
      refine P_aload_n d_MD_undoes_23 rfl ?_
      refine P_iload_n d_MD_undoes_24 rfl ?_
      refine P_iload_n d_MD_undoes_25 rfl ?_
      refine P_callV (M := M_MD_undoes) (pc := 26) (as := [.int (nI a1N), .int (nI a2N)]) (b := 467) d_MD_undoes_26 co_MD_laysProduct ok_Model s1 L_MD_277 im_MD_laysProduct se_MD_laysProduct (s_MD_laysProduct hI1 a1N (by omega) a2N (by omega)) rfl ⟨by decide, by decide⟩ ⟨by decide, by decide⟩ (by exact le_b rfl) ?_ _ rfl
      rintro _ w6 ⟨rfl, hI6, hG6⟩
      have hF6 : Fr SN w w6 := Fr.tr hF1 hG6.1
      obtain ⟨th6, rm6, um6, sm6, em6⟩ := hG6.2 (nI tp) (nI qs) nq (nI un) ln nl sz at_ pl so vl wo fa fp lf lp ⟨_, _, _, _, s1⟩
      show PW _ _ _ _ _ _ (29, [(0, .ref 467), (1, .int (nI a1N)), (2, .int (nI a2N))], [], w6)
      refine P_aload_n d_MD_undoes_29 rfl ?_
      obtain ⟨f7, f7e⟩ := hI6.row (r := 476) (by decide) kc_476
      refine P_callV (M := M_MD_undoes) (pc := 30) (as := []) (b := 467) d_MD_undoes_30 co_MD_isNothing ok_Model em6 L_MD_326 im_MD_isNothing se_MD_isNothing (s_MD_isNothing em6 htp hqs hun f7e) rfl ⟨by decide, by decide⟩ ⟨by decide, by decide⟩ (by exact le_b rfl) ?_ _ rfl
      rintro _ u ⟨⟨v8, rfl⟩, eu⟩
      subst u
      show PW _ _ _ _ _ _ (33, [(0, .ref 467), (1, .int (nI a1N)), (2, .int (nI a2N))], [.int (bi v8)], w6)
      refine P_if_eq 40 d_MD_undoes_33 (by decide) (fun c9 => ?_) (fun c9 => ?_)
      · refine P_iconst (v := 0) d_MD_undoes_40 (by decide) ?_
        exact P_iret d_MD_undoes_41 rfl (le_b rfl) (le_b rfl) ⟨⟨_, rfl⟩, hI6, FrM.of hF6 ⟨_, _, _, _, em⟩ ⟨_, _, _, _, em6⟩⟩
      · refine P_iconst (v := 1) d_MD_undoes_36 (by decide) ?_
        refine P_goto 41 d_MD_undoes_37 (by decide) ?_
        exact P_iret d_MD_undoes_41 rfl (le_b rfl) (le_b rfl) ⟨⟨_, rfl⟩, hI6, FrM.of hF6 ⟨_, _, _, _, em⟩ ⟨_, _, _, _, em6⟩⟩
    · refine P_iconst (v := (-1)) d_MD_undoes_21 (by decide) ?_
      exact P_iret d_MD_undoes_22 rfl (le_b rfl) (le_b rfl) ⟨⟨_, rfl⟩, hI1, FrM.of hF1 ⟨_, _, _, _, em⟩ ⟨_, _, _, _, s1⟩⟩
theorem s_MD_stays {G : pG} {w : pW} (hI : I w) (a1 : Int32) (a2 : Int32) : PM G M_MD_stays 7 0 0 [.ref 467, .int a1, .int a2] w (fun r w' => (∃ v, r = some (.int v)) ∧ I w' ∧ FrM w w') := by
  refine PM_of pn_MD_stays (le_b rfl) ?_
  show PW _ _ _ _ _ _ (0, [(0, .ref 467), (1, .int a1), (2, .int a2)], [], w)
  obtain ⟨tp, qs, un, nq, ln, nl, sz, at_, pl, so, vl, wo, fa, fp, lf, lp, th, rm, um, sm, htp, hqs, hun, em⟩ := hI.md
  obtain ⟨fn, nm, np, en, hnm, e8, hnp, e9⟩ := hI.now
  refine P_aload_n d_MD_stays_0 rfl ?_
  refine P_iconst (v := 0) d_MD_stays_1 (by decide) ?_
  refine P_putG (i := 0) d_MD_stays_2 ok_Model (by decide) rfl L_MD_74 em (fun _ => rfl) (fun _ => rfl) (fun w1 e1 s1 n1 z1 => ?_)
  have hI1 : I w1 := hI.setM (show w1 = (_, wu _ 467 (mO (nI tp) (nI qs) nq (nI un) ln nl sz at_ pl so vl wo fa fp lf lp 0 rm um sm)) from e1) htp hqs hun
  have hF1 : Fr SN w w1 := Fr.set Fr.rf e1 (SN_t (by omega))
  show PW _ _ _ _ _ _ (5, [(0, .ref 467), (1, .int a1), (2, .int a2)], [], w1)
  refine P_aload_n d_MD_stays_5 rfl ?_
  refine P_iload_n d_MD_stays_6 rfl ?_
  refine P_callV (M := M_MD_stays) (pc := 7) (as := [.int a1]) (b := 467) d_MD_stays_7 co_MD_isMap ok_Model s1 L_MD_241 im_MD_isMap se_MD_isMap (s_MD_isMap a1 s1 htp hqs hun ((hF1.2 _ (SN_f (by omega))).trans en) hnm e8 hnp e9) rfl ⟨by decide, by decide⟩ ⟨by decide, by decide⟩ (by exact le_b rfl) ?_ _ rfl
  rintro _ u ⟨rfl, eu⟩
  subst u
  show PW _ _ _ _ _ _ (10, [(0, .ref 467), (1, .int a1), (2, .int a2)], [.int (bi (inN nm a1))], w1)
  refine P_if_eq 21 d_MD_stays_10 (by decide) (fun c3 => ?_) (fun c3 => ?_)
  · refine P_iconst (v := (-1)) d_MD_stays_21 (by decide) ?_
    exact P_iret d_MD_stays_22 rfl (le_b rfl) (le_b rfl) ⟨⟨_, rfl⟩, hI1, FrM.of hF1 ⟨_, _, _, _, em⟩ ⟨_, _, _, _, s1⟩⟩
  · obtain ⟨a1N, ha1N, rfl⟩ := inN_of (bi_1 c3) (by omega)
    refine P_aload_n d_MD_stays_13 rfl ?_
    refine P_iload_n d_MD_stays_14 rfl ?_
    refine P_callV (M := M_MD_stays) (pc := 15) (as := [.int a2]) (b := 467) d_MD_stays_15 co_MD_isPoint ok_Model s1 L_MD_247 im_MD_isPoint se_MD_isPoint (s_MD_isPoint a2 s1 htp hqs hun ((hF1.2 _ (SN_f (by omega))).trans en) hnm e8 hnp e9) rfl ⟨by decide, by decide⟩ ⟨by decide, by decide⟩ (by exact le_b rfl) ?_ _ rfl
    rintro _ u ⟨rfl, eu⟩
    subst u
    show PW _ _ _ _ _ _ (18, [(0, .ref 467), (1, .int (nI a1N)), (2, .int a2)], [.int (bi (inN np a2))], w1)
    refine P_if_ne 23 d_MD_stays_18 (by decide) (fun c5 => ?_) (fun c5 => ?_)
    · obtain ⟨a2N, ha2N, rfl⟩ := inN_of (bi_1 c5) (by omega)
      refine P_aload_n d_MD_stays_23 rfl ?_
      refine P_iload_n d_MD_stays_24 rfl ?_
      refine P_iload_n d_MD_stays_25 rfl ?_
      refine P_callV (M := M_MD_stays) (pc := 26) (as := [.int (nI a1N), .int (nI a2N)]) (b := 467) d_MD_stays_26 co_MD_doesStay ok_Model s1 L_MD_334 im_MD_doesStay se_MD_doesStay (s_MD_doesStay hI1 a1N (by omega) a2N (by omega)) rfl ⟨by decide, by decide⟩ ⟨by decide, by decide⟩ (by exact le_b rfl) ?_ _ rfl
      rintro _ w6 ⟨⟨v6, rfl⟩, hI6, hG6⟩
      have hF6 : Fr SN w w6 := Fr.tr hF1 hG6.1
      obtain ⟨th6, rm6, um6, sm6, em6⟩ := hG6.2 (nI tp) (nI qs) nq (nI un) ln nl sz at_ pl so vl wo fa fp lf lp ⟨_, _, _, _, s1⟩
      show PW _ _ _ _ _ _ (29, [(0, .ref 467), (1, .int (nI a1N)), (2, .int (nI a2N))], [.int (bi v6)], w6)
      refine P_if_eq 36 d_MD_stays_29 (by decide) (fun c7 => ?_) (fun c7 => ?_)
      · refine P_iconst (v := 0) d_MD_stays_36 (by decide) ?_
        exact P_iret d_MD_stays_37 rfl (le_b rfl) (le_b rfl) ⟨⟨_, rfl⟩, hI6, FrM.of hF6 ⟨_, _, _, _, em⟩ ⟨_, _, _, _, em6⟩⟩
      · refine P_iconst (v := 1) d_MD_stays_32 (by decide) ?_
        refine P_goto 37 d_MD_stays_33 (by decide) ?_
        exact P_iret d_MD_stays_37 rfl (le_b rfl) (le_b rfl) ⟨⟨_, rfl⟩, hI6, FrM.of hF6 ⟨_, _, _, _, em⟩ ⟨_, _, _, _, em6⟩⟩
    · refine P_iconst (v := (-1)) d_MD_stays_21 (by decide) ?_
      exact P_iret d_MD_stays_22 rfl (le_b rfl) (le_b rfl) ⟨⟨_, rfl⟩, hI1, FrM.of hF1 ⟨_, _, _, _, em⟩ ⟨_, _, _, _, s1⟩⟩
theorem s_MD_points {G : pG} {w : pW} (hI : I w) (a1 : Int32) (a2 : Int32) : PM G M_MD_points 7 0 0 [.ref 467, .int a1, .int a2] w (fun r w' => (∃ v, r = some (.int v)) ∧ I w' ∧ FrM w w') := by
  refine PM_of pn_MD_points (le_b rfl) ?_
  show PW _ _ _ _ _ _ (0, [(0, .ref 467), (1, .int a1), (2, .int a2)], [], w)
  obtain ⟨tp, qs, un, nq, ln, nl, sz, at_, pl, so, vl, wo, fa, fp, lf, lp, th, rm, um, sm, htp, hqs, hun, em⟩ := hI.md
  obtain ⟨fn, nm, np, en, hnm, e8, hnp, e9⟩ := hI.now
  refine P_aload_n d_MD_points_0 rfl ?_
  refine P_iconst (v := 0) d_MD_points_1 (by decide) ?_
  refine P_putG (i := 0) d_MD_points_2 ok_Model (by decide) rfl L_MD_74 em (fun _ => rfl) (fun _ => rfl) (fun w1 e1 s1 n1 z1 => ?_)
  have hI1 : I w1 := hI.setM (show w1 = (_, wu _ 467 (mO (nI tp) (nI qs) nq (nI un) ln nl sz at_ pl so vl wo fa fp lf lp 0 rm um sm)) from e1) htp hqs hun
  have hF1 : Fr SN w w1 := Fr.set Fr.rf e1 (SN_t (by omega))
  show PW _ _ _ _ _ _ (5, [(0, .ref 467), (1, .int a1), (2, .int a2)], [], w1)
  refine P_aload_n d_MD_points_5 rfl ?_
  refine P_iload_n d_MD_points_6 rfl ?_
  refine P_callV (M := M_MD_points) (pc := 7) (as := [.int a1]) (b := 467) d_MD_points_7 co_MD_isMap ok_Model s1 L_MD_241 im_MD_isMap se_MD_isMap (s_MD_isMap a1 s1 htp hqs hun ((hF1.2 _ (SN_f (by omega))).trans en) hnm e8 hnp e9) rfl ⟨by decide, by decide⟩ ⟨by decide, by decide⟩ (by exact le_b rfl) ?_ _ rfl
  rintro _ u ⟨rfl, eu⟩
  subst u
  show PW _ _ _ _ _ _ (10, [(0, .ref 467), (1, .int a1), (2, .int a2)], [.int (bi (inN nm a1))], w1)
  refine P_if_eq 20 d_MD_points_10 (by decide) (fun c3 => ?_) (fun c3 => ?_)
  · refine P_iconst (v := (-1)) d_MD_points_20 (by decide) ?_
    exact P_iret d_MD_points_21 rfl (le_b rfl) (le_b rfl) ⟨⟨_, rfl⟩, hI1, FrM.of hF1 ⟨_, _, _, _, em⟩ ⟨_, _, _, _, s1⟩⟩
  · obtain ⟨a1N, ha1N, rfl⟩ := inN_of (bi_1 c3) (by omega)
    refine P_iload_n d_MD_points_13 rfl ?_
    refine P_callS (M := M_MD_points) (pc := 14) (as := [.int a2]) d_MD_points_14 co_MD_isThird L_MD_244 sm_MD_isThird (s_MD_isThird a2) rfl ⟨by decide, by decide⟩ ⟨by decide, by decide⟩ (by exact le_b rfl) ?_ _ rfl
    rintro _ u ⟨rfl, eu⟩
    subst u
    show PW _ _ _ _ _ _ (17, [(0, .ref 467), (1, .int (nI a1N)), (2, .int a2)], [.int (bi (inN 3 a2))], w1)
    refine P_if_ne 22 d_MD_points_17 (by decide) (fun c5 => ?_) (fun c5 => ?_)
    · obtain ⟨a2N, ha2N, rfl⟩ := inN_of (bi_1 c5) (by omega)
      refine P_iconst (v := 0) d_MD_points_22 (by decide) ?_
      refine P_istore_n d_MD_points_23 (by decide) rfl ?_
      refine P_iconst (v := 0) d_MD_points_24 (by decide) ?_
      refine P_istore d_MD_points_25 (by decide) rfl ?_
      refine PW_ind (σ := Int32 × pW) (np) (fun jj ss => I (ss.2) ∧ Fr SN w (ss.2) ∧ MS (nI tp) (nI qs) nq (nI un) ln nl sz at_ pl so vl wo fa fp lf lp ((ss.2).2 467)) (fun jj ss => (27, [(0, .ref 467), (1, .int (nI a1N)), (2, .int (nI a2N)), (3, .int ss.1), (4, .int (nI jj))], [], ss.2)) ?_ ?_ 0 (0, w1) (by omega) ⟨hI1, hF1, ⟨_, _, _, _, s1⟩⟩
      · rintro ⟨j6_3, uj6⟩ ⟨hIj6, hFj6, ⟨thj6, rmj6, umj6, smj6, emj6⟩⟩
        show PW _ _ _ _ _ _ (27, [(0, .ref 467), (1, .int (nI a1N)), (2, .int (nI a2N)), (3, .int j6_3), (4, .int (nI np))], [], uj6)
        refine P_iload d_MD_points_27 rfl ?_
        refine P_i2lN (n1 := np) d_MD_points_29 (by omega) ?_
        refine P_aload_n d_MD_points_30 rfl ?_
        refine P_getf (i := 7) d_MD_points_31 ok_Model (by decide) L_MD_21 emj6 rfl ?_
        refine P_sipush (v := 169) d_MD_points_34 (by decide) ?_
        refine P_lald (j := 169) d_MD_points_37 ((hFj6.2 _ (SN_f (by omega))).trans en) ⟨by decide, by decide⟩ (by decide) ?_
        rw [e9]
        show PW _ _ _ _ _ _ (38, [(0, .ref 467), (1, .int (nI a1N)), (2, .int (nI a2N)), (3, .int j6_3), (4, .int (nI np))], [.long (lN np), .long (lN np)], uj6)
        refine P_lcmpN (a := np) (b := np) d_MD_points_38 (by omega) (by omega) ?_
        show PW _ _ _ _ _ _ (39, [(0, .ref 467), (1, .int (nI a1N)), (2, .int (nI a2N)), (3, .int j6_3), (4, .int (nI np))], [.int (cN np np)], uj6)
        refine P_if_ge 139 d_MD_points_39 (by decide) (fun _ => ?_) (fun h => absurd (cN_self np) h)
        refine P_iload_n d_MD_points_139 rfl ?_
        exact P_iret d_MD_points_140 rfl (le_b rfl) (le_b rfl) ⟨⟨_, rfl⟩, hIj6, FrM.of hFj6 ⟨_, _, _, _, em⟩ ⟨_, _, _, _, emj6⟩⟩
      · rintro j6 ⟨j6_3, uj6⟩ hj6 ⟨hIj6, hFj6, ⟨thj6, rmj6, umj6, smj6, emj6⟩⟩ kkj6
        show PW _ _ _ _ _ _ (27, [(0, .ref 467), (1, .int (nI a1N)), (2, .int (nI a2N)), (3, .int j6_3), (4, .int (nI j6))], [], uj6)
        refine P_iload d_MD_points_27 rfl ?_
        refine P_i2lN (n1 := j6) d_MD_points_29 (by omega) ?_
        refine P_aload_n d_MD_points_30 rfl ?_
        refine P_getf (i := 7) d_MD_points_31 ok_Model (by decide) L_MD_21 emj6 rfl ?_
        refine P_sipush (v := 169) d_MD_points_34 (by decide) ?_
        refine P_lald (j := 169) d_MD_points_37 ((hFj6.2 _ (SN_f (by omega))).trans en) ⟨by decide, by decide⟩ (by decide) ?_
        rw [e9]
        show PW _ _ _ _ _ _ (38, [(0, .ref 467), (1, .int (nI a1N)), (2, .int (nI a2N)), (3, .int j6_3), (4, .int (nI j6))], [.long (lN np), .long (lN j6)], uj6)
        refine P_lcmpN (a := j6) (b := np) d_MD_points_38 (by omega) (by omega) ?_
        show PW _ _ _ _ _ _ (39, [(0, .ref 467), (1, .int (nI a1N)), (2, .int (nI a2N)), (3, .int j6_3), (4, .int (nI j6))], [.int (cN j6 np)], uj6)
        refine P_if_ge 139 d_MD_points_39 (by decide) (fun h => absurd h (cN_ltF (by omega))) (fun _ => ?_)
        refine P_aload_n d_MD_points_42 rfl ?_
        refine P_iload_n d_MD_points_43 rfl ?_
        refine P_iload d_MD_points_44 rfl ?_
        refine P_callV (M := M_MD_points) (pc := 46) (as := [.int (nI a1N), .int (nI j6)]) (b := 467) d_MD_points_46 co_MD_doesStay ok_Model emj6 L_MD_334 im_MD_doesStay se_MD_doesStay (s_MD_doesStay hIj6 a1N (by omega) j6 (by omega)) rfl ⟨by decide, by decide⟩ ⟨by decide, by decide⟩ (by exact le_b rfl) ?_ _ rfl
        rintro _ w7 ⟨⟨v7, rfl⟩, hI7, hG7⟩
        have hF7 : Fr SN w w7 := Fr.tr hFj6 hG7.1
        obtain ⟨th7, rm7, um7, sm7, em7⟩ := hG7.2 (nI tp) (nI qs) nq (nI un) ln nl sz at_ pl so vl wo fa fp lf lp ⟨_, _, _, _, emj6⟩
        show PW _ _ _ _ _ _ (49, [(0, .ref 467), (1, .int (nI a1N)), (2, .int (nI a2N)), (3, .int j6_3), (4, .int (nI j6))], [.int (bi v7)], w7)
        refine P_istore d_MD_points_49 (by decide) rfl ?_
        refine P_aload_n d_MD_points_51 rfl ?_
        refine P_getf (i := 28) d_MD_points_52 ok_Model (by decide) L_MD_50 em7 rfl ?_
        refine P_iconst (v := 2) d_MD_points_55 (by decide) ?_
        obtain ⟨f8, f8e⟩ := hI7.row (r := 479) (by decide) kc_479
        refine P_lald (j := 2) d_MD_points_56 f8e ⟨by decide, by decide⟩ (by decide) ?_
        refine P_lconst (v := 0) d_MD_points_57 (by decide) ?_
        refine P_lcmp d_MD_points_58 ?_
        refine P_if_eq 66 d_MD_points_59 (by decide) (fun c9 => ?_) (fun c9 => ?_)
        · refine P_iconst (v := 0) d_MD_points_66 (by decide) ?_
          refine P_istore d_MD_points_67 (by decide) rfl ?_
          refine P_iload_n d_MD_points_69 rfl ?_
          refine P_if_ne 78 d_MD_points_70 (by decide) (fun c10 => ?_) (fun c10 => ?_)
          · have ic10 : a2N ≠ 0 := fun q => c10 (congrArg nI q)
            refine P_iload_n d_MD_points_78 rfl ?_
            refine P_iconst (v := 1) d_MD_points_79 (by decide) ?_
            refine P_icmp_ne 96 d_MD_points_80 (by decide) (fun c11 => ?_) (fun c11 => ?_)
            · have ic11 : a2N ≠ 1 := fun q => c11 (congrArg nI q)
              refine P_iload d_MD_points_96 rfl ?_
              refine P_if_eq 117 d_MD_points_98 (by decide) (fun _ => ?_) (fun h => absurd (by decide) h)
              refine P_iconst (v := 0) d_MD_points_117 (by decide) ?_
              refine P_istore d_MD_points_118 (by decide) rfl ?_
              refine P_iload_n d_MD_points_120 rfl ?_
              refine P_iload d_MD_points_121 rfl ?_
              refine P_if_eq 130 d_MD_points_123 (by decide) (fun _ => ?_) (fun h => absurd (by decide) h)
              refine P_iconst (v := 0) d_MD_points_130 (by decide) ?_
              refine P_iadd d_MD_points_131 ?_
              refine P_istore_n d_MD_points_132 (by decide) rfl ?_
              refine P_iinc (v := nI (j6 + 1)) d_MD_points_133 (by decide) rfl (nI_add j6 1) rfl ?_
              refine P_goto 27 d_MD_points_136 (by decide) ?_
              show PW _ _ _ _ _ _ (27, [(0, .ref 467), (1, .int (nI a1N)), (2, .int (nI a2N)), (3, .int (j6_3 + 0)), (4, .int (nI (j6 + 1))), (5, .int (bi v7)), (6, .int 0), (7, .int 0)], [], w7)
              refine PW.drop (lv' := [(0, .ref 467), (1, .int (nI a1N)), (2, .int (nI a2N)), (3, .int (j6_3 + 0)), (4, .int (nI (j6 + 1)))]) (by simp) ?_
              exact kkj6 (j6_3 + 0, w7) ⟨hI7, hF7, ⟨_, _, _, _, em7⟩⟩
            · have ic11 : a2N = 1 := (nI_eq (by omega) (by omega)).mp c11
              refine P_iload d_MD_points_83 rfl ?_
              refine P_if_ne 92 d_MD_points_85 (by decide) (fun h => absurd (by decide) h) (fun _ => ?_)
              refine P_iconst (v := 1) d_MD_points_88 (by decide) ?_
              refine P_goto 118 d_MD_points_89 (by decide) ?_
              refine P_istore d_MD_points_118 (by decide) rfl ?_
              refine P_iload_n d_MD_points_120 rfl ?_
              refine P_iload d_MD_points_121 rfl ?_
              refine P_if_eq 130 d_MD_points_123 (by decide) (fun h => absurd h (by decide)) (fun _ => ?_)
              refine P_iconst (v := 1) d_MD_points_126 (by decide) ?_
              refine P_goto 131 d_MD_points_127 (by decide) ?_
              refine P_iadd d_MD_points_131 ?_
              refine P_istore_n d_MD_points_132 (by decide) rfl ?_
              refine P_iinc (v := nI (j6 + 1)) d_MD_points_133 (by decide) rfl (nI_add j6 1) rfl ?_
              refine P_goto 27 d_MD_points_136 (by decide) ?_
              show PW _ _ _ _ _ _ (27, [(0, .ref 467), (1, .int (nI a1N)), (2, .int (nI a2N)), (3, .int (j6_3 + 1)), (4, .int (nI (j6 + 1))), (5, .int (bi v7)), (6, .int 0), (7, .int 1)], [], w7)
              refine PW.drop (lv' := [(0, .ref 467), (1, .int (nI a1N)), (2, .int (nI a2N)), (3, .int (j6_3 + 1)), (4, .int (nI (j6 + 1)))]) (by simp) ?_
              exact kkj6 (j6_3 + 1, w7) ⟨hI7, hF7, ⟨_, _, _, _, em7⟩⟩
          · have ic10 : a2N = 0 := (nI_eq (by omega) (by omega)).mp c10
            refine P_iload d_MD_points_73 rfl ?_
            refine P_goto 118 d_MD_points_75 (by decide) ?_
            refine P_istore d_MD_points_118 (by decide) rfl ?_
            refine P_iload_n d_MD_points_120 rfl ?_
            refine P_iload d_MD_points_121 rfl ?_
            refine P_if_eq 130 d_MD_points_123 (by decide) (fun c12 => ?_) (fun c12 => ?_)
            · refine P_iconst (v := 0) d_MD_points_130 (by decide) ?_
              refine P_iadd d_MD_points_131 ?_
              refine P_istore_n d_MD_points_132 (by decide) rfl ?_
              refine P_iinc (v := nI (j6 + 1)) d_MD_points_133 (by decide) rfl (nI_add j6 1) rfl ?_
              refine P_goto 27 d_MD_points_136 (by decide) ?_
              show PW _ _ _ _ _ _ (27, [(0, .ref 467), (1, .int (nI a1N)), (2, .int (nI a2N)), (3, .int (j6_3 + 0)), (4, .int (nI (j6 + 1))), (5, .int (bi v7)), (6, .int 0), (7, .int (bi v7))], [], w7)
              refine PW.drop (lv' := [(0, .ref 467), (1, .int (nI a1N)), (2, .int (nI a2N)), (3, .int (j6_3 + 0)), (4, .int (nI (j6 + 1)))]) (by simp) ?_
              exact kkj6 (j6_3 + 0, w7) ⟨hI7, hF7, ⟨_, _, _, _, em7⟩⟩
            · refine P_iconst (v := 1) d_MD_points_126 (by decide) ?_
              refine P_goto 131 d_MD_points_127 (by decide) ?_
              refine P_iadd d_MD_points_131 ?_
              refine P_istore_n d_MD_points_132 (by decide) rfl ?_
              refine P_iinc (v := nI (j6 + 1)) d_MD_points_133 (by decide) rfl (nI_add j6 1) rfl ?_
              refine P_goto 27 d_MD_points_136 (by decide) ?_
              show PW _ _ _ _ _ _ (27, [(0, .ref 467), (1, .int (nI a1N)), (2, .int (nI a2N)), (3, .int (j6_3 + 1)), (4, .int (nI (j6 + 1))), (5, .int (bi v7)), (6, .int 0), (7, .int (bi v7))], [], w7)
              refine PW.drop (lv' := [(0, .ref 467), (1, .int (nI a1N)), (2, .int (nI a2N)), (3, .int (j6_3 + 1)), (4, .int (nI (j6 + 1)))]) (by simp) ?_
              exact kkj6 (j6_3 + 1, w7) ⟨hI7, hF7, ⟨_, _, _, _, em7⟩⟩
        · refine P_iconst (v := 1) d_MD_points_62 (by decide) ?_
          refine P_goto 67 d_MD_points_63 (by decide) ?_
          refine P_istore d_MD_points_67 (by decide) rfl ?_
          refine P_iload_n d_MD_points_69 rfl ?_
          refine P_if_ne 78 d_MD_points_70 (by decide) (fun c13 => ?_) (fun c13 => ?_)
          · have ic13 : a2N ≠ 0 := fun q => c13 (congrArg nI q)
            refine P_iload_n d_MD_points_78 rfl ?_
            refine P_iconst (v := 1) d_MD_points_79 (by decide) ?_
            refine P_icmp_ne 96 d_MD_points_80 (by decide) (fun c14 => ?_) (fun c14 => ?_)
            · have ic14 : a2N ≠ 1 := fun q => c14 (congrArg nI q)
              refine P_iload d_MD_points_96 rfl ?_
              refine P_if_eq 117 d_MD_points_98 (by decide) (fun h => absurd h (by decide)) (fun _ => ?_)
              refine P_aload_n d_MD_points_101 rfl ?_
              refine P_iload d_MD_points_102 rfl ?_
              refine P_iconst (v := 2) d_MD_points_104 (by decide) ?_
              refine P_callV (M := M_MD_points) (pc := 105) (as := [.int (nI j6), .int 2]) (b := 467) d_MD_points_105 co_MD_pointOf ok_Model em7 L_MD_250 im_MD_pointOf se_MD_pointOf (s_MD_pointOf j6 (by omega) 2 (by decide) em7 htp hqs hun ((hF7.2 _ (SN_f (by omega))).trans en) hnm e8 hnp e9) rfl ⟨by decide, by decide⟩ ⟨by decide, by decide⟩ (by exact le_b rfl) ?_ _ rfl
              rintro _ u ⟨⟨v15, rfl⟩, eu⟩
              subst u
              show PW _ _ _ _ _ _ (108, [(0, .ref 467), (1, .int (nI a1N)), (2, .int (nI a2N)), (3, .int j6_3), (4, .int (nI j6)), (5, .int (bi v7)), (6, .int 1)], [.long v15], w7)
              refine P_lconst (v := 0) d_MD_points_108 (by decide) ?_
              refine P_lcmp d_MD_points_109 ?_
              refine P_if_ne 117 d_MD_points_110 (by decide) (fun c16 => ?_) (fun c16 => ?_)
              · refine P_iconst (v := 0) d_MD_points_117 (by decide) ?_
                refine P_istore d_MD_points_118 (by decide) rfl ?_
                refine P_iload_n d_MD_points_120 rfl ?_
                refine P_iload d_MD_points_121 rfl ?_
                refine P_if_eq 130 d_MD_points_123 (by decide) (fun _ => ?_) (fun h => absurd (by decide) h)
                refine P_iconst (v := 0) d_MD_points_130 (by decide) ?_
                refine P_iadd d_MD_points_131 ?_
                refine P_istore_n d_MD_points_132 (by decide) rfl ?_
                refine P_iinc (v := nI (j6 + 1)) d_MD_points_133 (by decide) rfl (nI_add j6 1) rfl ?_
                refine P_goto 27 d_MD_points_136 (by decide) ?_
                show PW _ _ _ _ _ _ (27, [(0, .ref 467), (1, .int (nI a1N)), (2, .int (nI a2N)), (3, .int (j6_3 + 0)), (4, .int (nI (j6 + 1))), (5, .int (bi v7)), (6, .int 1), (7, .int 0)], [], w7)
                refine PW.drop (lv' := [(0, .ref 467), (1, .int (nI a1N)), (2, .int (nI a2N)), (3, .int (j6_3 + 0)), (4, .int (nI (j6 + 1)))]) (by simp) ?_
                exact kkj6 (j6_3 + 0, w7) ⟨hI7, hF7, ⟨_, _, _, _, em7⟩⟩
              · refine P_iconst (v := 1) d_MD_points_113 (by decide) ?_
                refine P_goto 118 d_MD_points_114 (by decide) ?_
                refine P_istore d_MD_points_118 (by decide) rfl ?_
                refine P_iload_n d_MD_points_120 rfl ?_
                refine P_iload d_MD_points_121 rfl ?_
                refine P_if_eq 130 d_MD_points_123 (by decide) (fun h => absurd h (by decide)) (fun _ => ?_)
                refine P_iconst (v := 1) d_MD_points_126 (by decide) ?_
                refine P_goto 131 d_MD_points_127 (by decide) ?_
                refine P_iadd d_MD_points_131 ?_
                refine P_istore_n d_MD_points_132 (by decide) rfl ?_
                refine P_iinc (v := nI (j6 + 1)) d_MD_points_133 (by decide) rfl (nI_add j6 1) rfl ?_
                refine P_goto 27 d_MD_points_136 (by decide) ?_
                show PW _ _ _ _ _ _ (27, [(0, .ref 467), (1, .int (nI a1N)), (2, .int (nI a2N)), (3, .int (j6_3 + 1)), (4, .int (nI (j6 + 1))), (5, .int (bi v7)), (6, .int 1), (7, .int 1)], [], w7)
                refine PW.drop (lv' := [(0, .ref 467), (1, .int (nI a1N)), (2, .int (nI a2N)), (3, .int (j6_3 + 1)), (4, .int (nI (j6 + 1)))]) (by simp) ?_
                exact kkj6 (j6_3 + 1, w7) ⟨hI7, hF7, ⟨_, _, _, _, em7⟩⟩
            · have ic14 : a2N = 1 := (nI_eq (by omega) (by omega)).mp c14
              refine P_iload d_MD_points_83 rfl ?_
              refine P_if_ne 92 d_MD_points_85 (by decide) (fun _ => ?_) (fun h => absurd h (by decide))
              refine P_iconst (v := 0) d_MD_points_92 (by decide) ?_
              refine P_goto 118 d_MD_points_93 (by decide) ?_
              refine P_istore d_MD_points_118 (by decide) rfl ?_
              refine P_iload_n d_MD_points_120 rfl ?_
              refine P_iload d_MD_points_121 rfl ?_
              refine P_if_eq 130 d_MD_points_123 (by decide) (fun _ => ?_) (fun h => absurd (by decide) h)
              refine P_iconst (v := 0) d_MD_points_130 (by decide) ?_
              refine P_iadd d_MD_points_131 ?_
              refine P_istore_n d_MD_points_132 (by decide) rfl ?_
              refine P_iinc (v := nI (j6 + 1)) d_MD_points_133 (by decide) rfl (nI_add j6 1) rfl ?_
              refine P_goto 27 d_MD_points_136 (by decide) ?_
              show PW _ _ _ _ _ _ (27, [(0, .ref 467), (1, .int (nI a1N)), (2, .int (nI a2N)), (3, .int (j6_3 + 0)), (4, .int (nI (j6 + 1))), (5, .int (bi v7)), (6, .int 1), (7, .int 0)], [], w7)
              refine PW.drop (lv' := [(0, .ref 467), (1, .int (nI a1N)), (2, .int (nI a2N)), (3, .int (j6_3 + 0)), (4, .int (nI (j6 + 1)))]) (by simp) ?_
              exact kkj6 (j6_3 + 0, w7) ⟨hI7, hF7, ⟨_, _, _, _, em7⟩⟩
          · have ic13 : a2N = 0 := (nI_eq (by omega) (by omega)).mp c13
            refine P_iload d_MD_points_73 rfl ?_
            refine P_goto 118 d_MD_points_75 (by decide) ?_
            refine P_istore d_MD_points_118 (by decide) rfl ?_
            refine P_iload_n d_MD_points_120 rfl ?_
            refine P_iload d_MD_points_121 rfl ?_
            refine P_if_eq 130 d_MD_points_123 (by decide) (fun c17 => ?_) (fun c17 => ?_)
            · refine P_iconst (v := 0) d_MD_points_130 (by decide) ?_
              refine P_iadd d_MD_points_131 ?_
              refine P_istore_n d_MD_points_132 (by decide) rfl ?_
              refine P_iinc (v := nI (j6 + 1)) d_MD_points_133 (by decide) rfl (nI_add j6 1) rfl ?_
              refine P_goto 27 d_MD_points_136 (by decide) ?_
              show PW _ _ _ _ _ _ (27, [(0, .ref 467), (1, .int (nI a1N)), (2, .int (nI a2N)), (3, .int (j6_3 + 0)), (4, .int (nI (j6 + 1))), (5, .int (bi v7)), (6, .int 1), (7, .int (bi v7))], [], w7)
              refine PW.drop (lv' := [(0, .ref 467), (1, .int (nI a1N)), (2, .int (nI a2N)), (3, .int (j6_3 + 0)), (4, .int (nI (j6 + 1)))]) (by simp) ?_
              exact kkj6 (j6_3 + 0, w7) ⟨hI7, hF7, ⟨_, _, _, _, em7⟩⟩
            · refine P_iconst (v := 1) d_MD_points_126 (by decide) ?_
              refine P_goto 131 d_MD_points_127 (by decide) ?_
              refine P_iadd d_MD_points_131 ?_
              refine P_istore_n d_MD_points_132 (by decide) rfl ?_
              refine P_iinc (v := nI (j6 + 1)) d_MD_points_133 (by decide) rfl (nI_add j6 1) rfl ?_
              refine P_goto 27 d_MD_points_136 (by decide) ?_
              show PW _ _ _ _ _ _ (27, [(0, .ref 467), (1, .int (nI a1N)), (2, .int (nI a2N)), (3, .int (j6_3 + 1)), (4, .int (nI (j6 + 1))), (5, .int (bi v7)), (6, .int 1), (7, .int (bi v7))], [], w7)
              refine PW.drop (lv' := [(0, .ref 467), (1, .int (nI a1N)), (2, .int (nI a2N)), (3, .int (j6_3 + 1)), (4, .int (nI (j6 + 1)))]) (by simp) ?_
              exact kkj6 (j6_3 + 1, w7) ⟨hI7, hF7, ⟨_, _, _, _, em7⟩⟩
    · refine P_iconst (v := (-1)) d_MD_points_20 (by decide) ?_
      exact P_iret d_MD_points_21 rfl (le_b rfl) (le_b rfl) ⟨⟨_, rfl⟩, hI1, FrM.of hF1 ⟨_, _, _, _, em⟩ ⟨_, _, _, _, s1⟩⟩
theorem s_MD_join {G : pG} {w : pW} (hI : I w) (a1 : Int32) (a2 : Int32) (a3 : Int32) : PM G M_MD_join 3 0 0 [.ref 467, .int a1, .int a2, .int a3] w (fun r w' => (∃ v, r = some (.long v)) ∧ I w' ∧ FrM w w') := by
  refine PM_of pn_MD_join (le_b rfl) ?_
  show PW _ _ _ _ _ _ (0, [(0, .ref 467), (1, .int a1), (2, .int a2), (3, .int a3)], [], w)
  obtain ⟨tp, qs, un, nq, ln, nl, sz, at_, pl, so, vl, wo, fa, fp, lf, lp, th, rm, um, sm, htp, hqs, hun, em⟩ := hI.md
  obtain ⟨fn, nm, np, en, hnm, e8, hnp, e9⟩ := hI.now
  refine P_aload_n d_MD_join_0 rfl ?_
  refine P_iconst (v := 0) d_MD_join_1 (by decide) ?_
  refine P_putG (i := 0) d_MD_join_2 ok_Model (by decide) rfl L_MD_74 em (fun _ => rfl) (fun _ => rfl) (fun w1 e1 s1 n1 z1 => ?_)
  have hI1 : I w1 := hI.setM (show w1 = (_, wu _ 467 (mO (nI tp) (nI qs) nq (nI un) ln nl sz at_ pl so vl wo fa fp lf lp 0 rm um sm)) from e1) htp hqs hun
  have hF1 : Fr SN w w1 := Fr.set Fr.rf e1 (SN_t (by omega))
  show PW _ _ _ _ _ _ (5, [(0, .ref 467), (1, .int a1), (2, .int a2), (3, .int a3)], [], w1)
  refine P_aload_n d_MD_join_5 rfl ?_
  refine P_iload_n d_MD_join_6 rfl ?_
  refine P_callV (M := M_MD_join) (pc := 7) (as := [.int a1]) (b := 467) d_MD_join_7 co_MD_isPoint ok_Model s1 L_MD_247 im_MD_isPoint se_MD_isPoint (s_MD_isPoint a1 s1 htp hqs hun ((hF1.2 _ (SN_f (by omega))).trans en) hnm e8 hnp e9) rfl ⟨by decide, by decide⟩ ⟨by decide, by decide⟩ (by exact le_b rfl) ?_ _ rfl
  rintro _ u ⟨rfl, eu⟩
  subst u
  show PW _ _ _ _ _ _ (10, [(0, .ref 467), (1, .int a1), (2, .int a2), (3, .int a3)], [.int (bi (inN np a1))], w1)
  refine P_if_eq 28 d_MD_join_10 (by decide) (fun c3 => ?_) (fun c3 => ?_)
  · refine P_ldc2 (v := (-9223372036854775808)) d_MD_join_28 L_MD_307 ?_
    exact P_lret d_MD_join_31 rfl (le_b rfl) (le_b rfl) ⟨⟨_, rfl⟩, hI1, FrM.of hF1 ⟨_, _, _, _, em⟩ ⟨_, _, _, _, s1⟩⟩
  · obtain ⟨a1N, ha1N, rfl⟩ := inN_of (bi_1 c3) (by omega)
    refine P_aload_n d_MD_join_13 rfl ?_
    refine P_iload_n d_MD_join_14 rfl ?_
    refine P_callV (M := M_MD_join) (pc := 15) (as := [.int a2]) (b := 467) d_MD_join_15 co_MD_isPoint ok_Model s1 L_MD_247 im_MD_isPoint se_MD_isPoint (s_MD_isPoint a2 s1 htp hqs hun ((hF1.2 _ (SN_f (by omega))).trans en) hnm e8 hnp e9) rfl ⟨by decide, by decide⟩ ⟨by decide, by decide⟩ (by exact le_b rfl) ?_ _ rfl
    rintro _ u ⟨rfl, eu⟩
    subst u
    show PW _ _ _ _ _ _ (18, [(0, .ref 467), (1, .int (nI a1N)), (2, .int a2), (3, .int a3)], [.int (bi (inN np a2))], w1)
    refine P_if_eq 28 d_MD_join_18 (by decide) (fun c5 => ?_) (fun c5 => ?_)
    · refine P_ldc2 (v := (-9223372036854775808)) d_MD_join_28 L_MD_307 ?_
      exact P_lret d_MD_join_31 rfl (le_b rfl) (le_b rfl) ⟨⟨_, rfl⟩, hI1, FrM.of hF1 ⟨_, _, _, _, em⟩ ⟨_, _, _, _, s1⟩⟩
    · obtain ⟨a2N, ha2N, rfl⟩ := inN_of (bi_1 c5) (by omega)
      refine P_iload_n d_MD_join_21 rfl ?_
      refine P_callS (M := M_MD_join) (pc := 22) (as := [.int a3]) d_MD_join_22 co_MD_isThird L_MD_244 sm_MD_isThird (s_MD_isThird a3) rfl ⟨by decide, by decide⟩ ⟨by decide, by decide⟩ (by exact le_b rfl) ?_ _ rfl
      rintro _ u ⟨rfl, eu⟩
      subst u
      show PW _ _ _ _ _ _ (25, [(0, .ref 467), (1, .int (nI a1N)), (2, .int (nI a2N)), (3, .int a3)], [.int (bi (inN 3 a3))], w1)
      refine P_if_ne 32 d_MD_join_25 (by decide) (fun c7 => ?_) (fun c7 => ?_)
      · obtain ⟨a3N, ha3N, rfl⟩ := inN_of (bi_1 c7) (by omega)
        refine P_aload_n d_MD_join_32 rfl ?_
        refine P_aload_n d_MD_join_33 rfl ?_
        refine P_getf (i := 28) d_MD_join_34 ok_Model (by decide) L_MD_50 s1 rfl ?_
        refine P_iload_n d_MD_join_37 rfl ?_
        refine P_iload_n d_MD_join_38 rfl ?_
        refine P_callV (M := M_MD_join) (pc := 39) (as := [.ref 479, .int (nI a1N), .int (nI a2N)]) (b := 467) d_MD_join_39 co_MD_crossesPoints ok_Model s1 L_MD_341 im_MD_crossesPoints se_MD_crossesPoints (s_MD_crossesPoints hI1 (by decide) kc_479 (by omega) a1N (by omega) a2N (by omega)) rfl ⟨by decide, by decide⟩ ⟨by decide, by decide⟩ (by exact le_b rfl) ?_ _ rfl
        rintro _ w8 ⟨rfl, hI8, hG8⟩
        have hF8 : Fr SN w w8 := Fr.tr hF1 hG8.1
        obtain ⟨th8, rm8, um8, sm8, em8⟩ := hG8.2 (nI tp) (nI qs) nq (nI un) ln nl sz at_ pl so vl wo fa fp lf lp ⟨_, _, _, _, s1⟩
        show PW _ _ _ _ _ _ (42, [(0, .ref 467), (1, .int (nI a1N)), (2, .int (nI a2N)), (3, .int (nI a3N))], [], w8)
        refine P_aload_n d_MD_join_42 rfl ?_
        refine P_getf (i := 28) d_MD_join_43 ok_Model (by decide) L_MD_50 em8 rfl ?_
        obtain ⟨f9, f9e⟩ := hI8.row (r := 479) (by decide) kc_479
        refine P_callS (M := M_MD_join) (pc := 46) (as := [.ref 479]) d_MD_join_46 co_MD_isNone L_MD_345 sm_MD_isNone (s_MD_isNone f9e) rfl ⟨by decide, by decide⟩ ⟨by decide, by decide⟩ (by exact le_b rfl) ?_ _ rfl
        rintro _ u ⟨⟨v10, rfl⟩, eu⟩
        subst u
        show PW _ _ _ _ _ _ (49, [(0, .ref 467), (1, .int (nI a1N)), (2, .int (nI a2N)), (3, .int (nI a3N))], [.int (bi v10)], w8)
        refine P_if_eq 56 d_MD_join_49 (by decide) (fun c11 => ?_) (fun c11 => ?_)
        · refine P_aload_n d_MD_join_56 rfl ?_
          refine P_getf (i := 28) d_MD_join_57 ok_Model (by decide) L_MD_50 em8 rfl ?_
          refine P_callS (M := M_MD_join) (pc := 60) (as := [.ref 479]) d_MD_join_60 co_MD_reduces L_MD_220 sm_MD_reduces (v_MD_reduces f9e (by decide) (by decide) (by decide)) rfl ⟨by decide, by decide⟩ ⟨by decide, by decide⟩ (by exact le_b rfl) ?_ _ rfl
          rintro _ w12 ⟨rfl, g12, e12⟩
          have s12 := w_s e12
          have hI12 : I w12 := hI8.setL e12 kc_479
          have hF12 : Fr SN w w12 := Fr.set hF8 e12 (SN_t (by omega))
          show PW _ _ _ _ _ _ (63, [(0, .ref 467), (1, .int (nI a1N)), (2, .int (nI a2N)), (3, .int (nI a3N))], [], w12)
          refine P_aload_n d_MD_join_63 rfl ?_
          refine P_getf (i := 28) d_MD_join_64 ok_Model (by decide) L_MD_50 ((w_n e12 _ (by decide)).trans em8) rfl ?_
          refine P_iload_n d_MD_join_67 rfl ?_
          refine P_lald (j := a3N) d_MD_join_68 s12 (ix_nI (by omega)) (by omega) ?_
          exact P_lret d_MD_join_69 rfl (le_b rfl) (le_b rfl) ⟨⟨_, rfl⟩, hI12, FrM.of hF12 ⟨_, _, _, _, em⟩ ⟨_, _, _, _, ((w_n e12 _ (by decide)).trans em8)⟩⟩
        · refine P_ldc2 (v := (-100000000000)) d_MD_join_52 L_MD_309 ?_
          exact P_lret d_MD_join_55 rfl (le_b rfl) (le_b rfl) ⟨⟨_, rfl⟩, hI8, FrM.of hF8 ⟨_, _, _, _, em⟩ ⟨_, _, _, _, em8⟩⟩
      · refine P_ldc2 (v := (-9223372036854775808)) d_MD_join_28 L_MD_307 ?_
        exact P_lret d_MD_join_31 rfl (le_b rfl) (le_b rfl) ⟨⟨_, rfl⟩, hI1, FrM.of hF1 ⟨_, _, _, _, em⟩ ⟨_, _, _, _, s1⟩⟩
theorem s_MD_inLine {G : pG} {w : pW} (hI : I w) (a1 : Int32) (a2 : Int32) (a3 : Int32) : PM G M_MD_inLine 2 0 0 [.ref 467, .int a1, .int a2, .int a3] w (fun r w' => (∃ v, r = some (.int v)) ∧ I w' ∧ FrM w w') := by
  refine PM_of pn_MD_inLine (le_b rfl) ?_
  show PW _ _ _ _ _ _ (0, [(0, .ref 467), (1, .int a1), (2, .int a2), (3, .int a3)], [], w)
  obtain ⟨tp, qs, un, nq, ln, nl, sz, at_, pl, so, vl, wo, fa, fp, lf, lp, th, rm, um, sm, htp, hqs, hun, em⟩ := hI.md
  obtain ⟨fn, nm, np, en, hnm, e8, hnp, e9⟩ := hI.now
  refine P_aload_n d_MD_inLine_0 rfl ?_
  refine P_iconst (v := 0) d_MD_inLine_1 (by decide) ?_
  refine P_putG (i := 0) d_MD_inLine_2 ok_Model (by decide) rfl L_MD_74 em (fun _ => rfl) (fun _ => rfl) (fun w1 e1 s1 n1 z1 => ?_)
  have hI1 : I w1 := hI.setM (show w1 = (_, wu _ 467 (mO (nI tp) (nI qs) nq (nI un) ln nl sz at_ pl so vl wo fa fp lf lp 0 rm um sm)) from e1) htp hqs hun
  have hF1 : Fr SN w w1 := Fr.set Fr.rf e1 (SN_t (by omega))
  show PW _ _ _ _ _ _ (5, [(0, .ref 467), (1, .int a1), (2, .int a2), (3, .int a3)], [], w1)
  refine P_aload_n d_MD_inLine_5 rfl ?_
  refine P_iload_n d_MD_inLine_6 rfl ?_
  refine P_callV (M := M_MD_inLine) (pc := 7) (as := [.int a1]) (b := 467) d_MD_inLine_7 co_MD_isPoint ok_Model s1 L_MD_247 im_MD_isPoint se_MD_isPoint (s_MD_isPoint a1 s1 htp hqs hun ((hF1.2 _ (SN_f (by omega))).trans en) hnm e8 hnp e9) rfl ⟨by decide, by decide⟩ ⟨by decide, by decide⟩ (by exact le_b rfl) ?_ _ rfl
  rintro _ u ⟨rfl, eu⟩
  subst u
  show PW _ _ _ _ _ _ (10, [(0, .ref 467), (1, .int a1), (2, .int a2), (3, .int a3)], [.int (bi (inN np a1))], w1)
  refine P_if_eq 29 d_MD_inLine_10 (by decide) (fun c3 => ?_) (fun c3 => ?_)
  · refine P_iconst (v := (-1)) d_MD_inLine_29 (by decide) ?_
    exact P_iret d_MD_inLine_30 rfl (le_b rfl) (le_b rfl) ⟨⟨_, rfl⟩, hI1, FrM.of hF1 ⟨_, _, _, _, em⟩ ⟨_, _, _, _, s1⟩⟩
  · obtain ⟨a1N, ha1N, rfl⟩ := inN_of (bi_1 c3) (by omega)
    refine P_aload_n d_MD_inLine_13 rfl ?_
    refine P_iload_n d_MD_inLine_14 rfl ?_
    refine P_callV (M := M_MD_inLine) (pc := 15) (as := [.int a2]) (b := 467) d_MD_inLine_15 co_MD_isPoint ok_Model s1 L_MD_247 im_MD_isPoint se_MD_isPoint (s_MD_isPoint a2 s1 htp hqs hun ((hF1.2 _ (SN_f (by omega))).trans en) hnm e8 hnp e9) rfl ⟨by decide, by decide⟩ ⟨by decide, by decide⟩ (by exact le_b rfl) ?_ _ rfl
    rintro _ u ⟨rfl, eu⟩
    subst u
    show PW _ _ _ _ _ _ (18, [(0, .ref 467), (1, .int (nI a1N)), (2, .int a2), (3, .int a3)], [.int (bi (inN np a2))], w1)
    refine P_if_eq 29 d_MD_inLine_18 (by decide) (fun c5 => ?_) (fun c5 => ?_)
    · refine P_iconst (v := (-1)) d_MD_inLine_29 (by decide) ?_
      exact P_iret d_MD_inLine_30 rfl (le_b rfl) (le_b rfl) ⟨⟨_, rfl⟩, hI1, FrM.of hF1 ⟨_, _, _, _, em⟩ ⟨_, _, _, _, s1⟩⟩
    · obtain ⟨a2N, ha2N, rfl⟩ := inN_of (bi_1 c5) (by omega)
      refine P_aload_n d_MD_inLine_21 rfl ?_
      refine P_iload_n d_MD_inLine_22 rfl ?_
      refine P_callV (M := M_MD_inLine) (pc := 23) (as := [.int a3]) (b := 467) d_MD_inLine_23 co_MD_isPoint ok_Model s1 L_MD_247 im_MD_isPoint se_MD_isPoint (s_MD_isPoint a3 s1 htp hqs hun ((hF1.2 _ (SN_f (by omega))).trans en) hnm e8 hnp e9) rfl ⟨by decide, by decide⟩ ⟨by decide, by decide⟩ (by exact le_b rfl) ?_ _ rfl
      rintro _ u ⟨rfl, eu⟩
      subst u
      show PW _ _ _ _ _ _ (26, [(0, .ref 467), (1, .int (nI a1N)), (2, .int (nI a2N)), (3, .int a3)], [.int (bi (inN np a3))], w1)
      refine P_if_ne 31 d_MD_inLine_26 (by decide) (fun c7 => ?_) (fun c7 => ?_)
      · obtain ⟨a3N, ha3N, rfl⟩ := inN_of (bi_1 c7) (by omega)
        refine P_aload_n d_MD_inLine_31 rfl ?_
        refine P_aload_n d_MD_inLine_32 rfl ?_
        refine P_getf (i := 28) d_MD_inLine_33 ok_Model (by decide) L_MD_50 s1 rfl ?_
        refine P_iload_n d_MD_inLine_36 rfl ?_
        refine P_iload_n d_MD_inLine_37 rfl ?_
        refine P_callV (M := M_MD_inLine) (pc := 38) (as := [.ref 479, .int (nI a1N), .int (nI a2N)]) (b := 467) d_MD_inLine_38 co_MD_crossesPoints ok_Model s1 L_MD_341 im_MD_crossesPoints se_MD_crossesPoints (s_MD_crossesPoints hI1 (by decide) kc_479 (by omega) a1N (by omega) a2N (by omega)) rfl ⟨by decide, by decide⟩ ⟨by decide, by decide⟩ (by exact le_b rfl) ?_ _ rfl
        rintro _ w8 ⟨rfl, hI8, hG8⟩
        have hF8 : Fr SN w w8 := Fr.tr hF1 hG8.1
        obtain ⟨th8, rm8, um8, sm8, em8⟩ := hG8.2 (nI tp) (nI qs) nq (nI un) ln nl sz at_ pl so vl wo fa fp lf lp ⟨_, _, _, _, s1⟩
        show PW _ _ _ _ _ _ (41, [(0, .ref 467), (1, .int (nI a1N)), (2, .int (nI a2N)), (3, .int (nI a3N))], [], w8)
        refine P_aload_n d_MD_inLine_41 rfl ?_
        refine P_aload_n d_MD_inLine_42 rfl ?_
        refine P_getf (i := 28) d_MD_inLine_43 ok_Model (by decide) L_MD_50 em8 rfl ?_
        refine P_iload_n d_MD_inLine_46 rfl ?_
        obtain ⟨f9, f9e⟩ := hI8.row (r := 479) (by decide) kc_479
        refine P_callV (M := M_MD_inLine) (pc := 47) (as := [.ref 479, .int (nI a3N)]) (b := 467) d_MD_inLine_47 co_MD_isOn ok_Model em8 L_MD_349 im_MD_isOn se_MD_isOn (s_MD_isOn f9e a3N (by omega) em8 htp hqs hun ((hF8.2 _ (SN_f (by omega))).trans en) hnm e8 hnp e9) rfl ⟨by decide, by decide⟩ ⟨by decide, by decide⟩ (by exact le_b rfl) ?_ _ rfl
        rintro _ u ⟨⟨v10, rfl⟩, eu⟩
        subst u
        show PW _ _ _ _ _ _ (50, [(0, .ref 467), (1, .int (nI a1N)), (2, .int (nI a2N)), (3, .int (nI a3N))], [.int (bi v10)], w8)
        refine P_if_eq 57 d_MD_inLine_50 (by decide) (fun c11 => ?_) (fun c11 => ?_)
        · refine P_iconst (v := 0) d_MD_inLine_57 (by decide) ?_
          exact P_iret d_MD_inLine_58 rfl (le_b rfl) (le_b rfl) ⟨⟨_, rfl⟩, hI8, FrM.of hF8 ⟨_, _, _, _, em⟩ ⟨_, _, _, _, em8⟩⟩
        · refine P_iconst (v := 1) d_MD_inLine_53 (by decide) ?_
          refine P_goto 58 d_MD_inLine_54 (by decide) ?_
          exact P_iret d_MD_inLine_58 rfl (le_b rfl) (le_b rfl) ⟨⟨_, rfl⟩, hI8, FrM.of hF8 ⟨_, _, _, _, em⟩ ⟨_, _, _, _, em8⟩⟩
      · refine P_iconst (v := (-1)) d_MD_inLine_29 (by decide) ?_
        exact P_iret d_MD_inLine_30 rfl (le_b rfl) (le_b rfl) ⟨⟨_, rfl⟩, hI1, FrM.of hF1 ⟨_, _, _, _, em⟩ ⟨_, _, _, _, s1⟩⟩
theorem s_MD_meet {G : pG} {w : pW} (hI : I w) (a1 : Int32) (a2 : Int32) (a3 : Int32) (a4 : Int32) (a5 : Int32) : PM G M_MD_meet 3 0 0 [.ref 467, .int a1, .int a2, .int a3, .int a4, .int a5] w (fun r w' => (∃ v, r = some (.long v)) ∧ I w' ∧ FrM w w') := by
  refine PM_of pn_MD_meet (le_b rfl) ?_
  show PW _ _ _ _ _ _ (0, [(0, .ref 467), (1, .int a1), (2, .int a2), (3, .int a3), (4, .int a4), (5, .int a5)], [], w)
  obtain ⟨tp, qs, un, nq, ln, nl, sz, at_, pl, so, vl, wo, fa, fp, lf, lp, th, rm, um, sm, htp, hqs, hun, em⟩ := hI.md
  obtain ⟨fn, nm, np, en, hnm, e8, hnp, e9⟩ := hI.now
  refine P_aload_n d_MD_meet_0 rfl ?_
  refine P_iconst (v := 0) d_MD_meet_1 (by decide) ?_
  refine P_putG (i := 0) d_MD_meet_2 ok_Model (by decide) rfl L_MD_74 em (fun _ => rfl) (fun _ => rfl) (fun w1 e1 s1 n1 z1 => ?_)
  have hI1 : I w1 := hI.setM (show w1 = (_, wu _ 467 (mO (nI tp) (nI qs) nq (nI un) ln nl sz at_ pl so vl wo fa fp lf lp 0 rm um sm)) from e1) htp hqs hun
  have hF1 : Fr SN w w1 := Fr.set Fr.rf e1 (SN_t (by omega))
  show PW _ _ _ _ _ _ (5, [(0, .ref 467), (1, .int a1), (2, .int a2), (3, .int a3), (4, .int a4), (5, .int a5)], [], w1)
  refine P_aload_n d_MD_meet_5 rfl ?_
  refine P_iload_n d_MD_meet_6 rfl ?_
  refine P_callV (M := M_MD_meet) (pc := 7) (as := [.int a1]) (b := 467) d_MD_meet_7 co_MD_isPoint ok_Model s1 L_MD_247 im_MD_isPoint se_MD_isPoint (s_MD_isPoint a1 s1 htp hqs hun ((hF1.2 _ (SN_f (by omega))).trans en) hnm e8 hnp e9) rfl ⟨by decide, by decide⟩ ⟨by decide, by decide⟩ (by exact le_b rfl) ?_ _ rfl
  rintro _ u ⟨rfl, eu⟩
  subst u
  show PW _ _ _ _ _ _ (10, [(0, .ref 467), (1, .int a1), (2, .int a2), (3, .int a3), (4, .int a4), (5, .int a5)], [.int (bi (inN np a1))], w1)
  refine P_if_eq 46 d_MD_meet_10 (by decide) (fun c3 => ?_) (fun c3 => ?_)
  · refine P_ldc2 (v := (-9223372036854775808)) d_MD_meet_46 L_MD_307 ?_
    exact P_lret d_MD_meet_49 rfl (le_b rfl) (le_b rfl) ⟨⟨_, rfl⟩, hI1, FrM.of hF1 ⟨_, _, _, _, em⟩ ⟨_, _, _, _, s1⟩⟩
  · obtain ⟨a1N, ha1N, rfl⟩ := inN_of (bi_1 c3) (by omega)
    refine P_aload_n d_MD_meet_13 rfl ?_
    refine P_iload_n d_MD_meet_14 rfl ?_
    refine P_callV (M := M_MD_meet) (pc := 15) (as := [.int a2]) (b := 467) d_MD_meet_15 co_MD_isPoint ok_Model s1 L_MD_247 im_MD_isPoint se_MD_isPoint (s_MD_isPoint a2 s1 htp hqs hun ((hF1.2 _ (SN_f (by omega))).trans en) hnm e8 hnp e9) rfl ⟨by decide, by decide⟩ ⟨by decide, by decide⟩ (by exact le_b rfl) ?_ _ rfl
    rintro _ u ⟨rfl, eu⟩
    subst u
    show PW _ _ _ _ _ _ (18, [(0, .ref 467), (1, .int (nI a1N)), (2, .int a2), (3, .int a3), (4, .int a4), (5, .int a5)], [.int (bi (inN np a2))], w1)
    refine P_if_eq 46 d_MD_meet_18 (by decide) (fun c5 => ?_) (fun c5 => ?_)
    · refine P_ldc2 (v := (-9223372036854775808)) d_MD_meet_46 L_MD_307 ?_
      exact P_lret d_MD_meet_49 rfl (le_b rfl) (le_b rfl) ⟨⟨_, rfl⟩, hI1, FrM.of hF1 ⟨_, _, _, _, em⟩ ⟨_, _, _, _, s1⟩⟩
    · obtain ⟨a2N, ha2N, rfl⟩ := inN_of (bi_1 c5) (by omega)
      refine P_aload_n d_MD_meet_21 rfl ?_
      refine P_iload_n d_MD_meet_22 rfl ?_
      refine P_callV (M := M_MD_meet) (pc := 23) (as := [.int a3]) (b := 467) d_MD_meet_23 co_MD_isPoint ok_Model s1 L_MD_247 im_MD_isPoint se_MD_isPoint (s_MD_isPoint a3 s1 htp hqs hun ((hF1.2 _ (SN_f (by omega))).trans en) hnm e8 hnp e9) rfl ⟨by decide, by decide⟩ ⟨by decide, by decide⟩ (by exact le_b rfl) ?_ _ rfl
      rintro _ u ⟨rfl, eu⟩
      subst u
      show PW _ _ _ _ _ _ (26, [(0, .ref 467), (1, .int (nI a1N)), (2, .int (nI a2N)), (3, .int a3), (4, .int a4), (5, .int a5)], [.int (bi (inN np a3))], w1)
      refine P_if_eq 46 d_MD_meet_26 (by decide) (fun c7 => ?_) (fun c7 => ?_)
      · refine P_ldc2 (v := (-9223372036854775808)) d_MD_meet_46 L_MD_307 ?_
        exact P_lret d_MD_meet_49 rfl (le_b rfl) (le_b rfl) ⟨⟨_, rfl⟩, hI1, FrM.of hF1 ⟨_, _, _, _, em⟩ ⟨_, _, _, _, s1⟩⟩
      · obtain ⟨a3N, ha3N, rfl⟩ := inN_of (bi_1 c7) (by omega)
        refine P_aload_n d_MD_meet_29 rfl ?_
        refine P_iload d_MD_meet_30 rfl ?_
        refine P_callV (M := M_MD_meet) (pc := 32) (as := [.int a4]) (b := 467) d_MD_meet_32 co_MD_isPoint ok_Model s1 L_MD_247 im_MD_isPoint se_MD_isPoint (s_MD_isPoint a4 s1 htp hqs hun ((hF1.2 _ (SN_f (by omega))).trans en) hnm e8 hnp e9) rfl ⟨by decide, by decide⟩ ⟨by decide, by decide⟩ (by exact le_b rfl) ?_ _ rfl
        rintro _ u ⟨rfl, eu⟩
        subst u
        show PW _ _ _ _ _ _ (35, [(0, .ref 467), (1, .int (nI a1N)), (2, .int (nI a2N)), (3, .int (nI a3N)), (4, .int a4), (5, .int a5)], [.int (bi (inN np a4))], w1)
        refine P_if_eq 46 d_MD_meet_35 (by decide) (fun c9 => ?_) (fun c9 => ?_)
        · refine P_ldc2 (v := (-9223372036854775808)) d_MD_meet_46 L_MD_307 ?_
          exact P_lret d_MD_meet_49 rfl (le_b rfl) (le_b rfl) ⟨⟨_, rfl⟩, hI1, FrM.of hF1 ⟨_, _, _, _, em⟩ ⟨_, _, _, _, s1⟩⟩
        · obtain ⟨a4N, ha4N, rfl⟩ := inN_of (bi_1 c9) (by omega)
          refine P_iload d_MD_meet_38 rfl ?_
          refine P_callS (M := M_MD_meet) (pc := 40) (as := [.int a5]) d_MD_meet_40 co_MD_isThird L_MD_244 sm_MD_isThird (s_MD_isThird a5) rfl ⟨by decide, by decide⟩ ⟨by decide, by decide⟩ (by exact le_b rfl) ?_ _ rfl
          rintro _ u ⟨rfl, eu⟩
          subst u
          show PW _ _ _ _ _ _ (43, [(0, .ref 467), (1, .int (nI a1N)), (2, .int (nI a2N)), (3, .int (nI a3N)), (4, .int (nI a4N)), (5, .int a5)], [.int (bi (inN 3 a5))], w1)
          refine P_if_ne 50 d_MD_meet_43 (by decide) (fun c11 => ?_) (fun c11 => ?_)
          · obtain ⟨a5N, ha5N, rfl⟩ := inN_of (bi_1 c11) (by omega)
            refine P_aload_n d_MD_meet_50 rfl ?_
            refine P_aload_n d_MD_meet_51 rfl ?_
            refine P_getf (i := 28) d_MD_meet_52 ok_Model (by decide) L_MD_50 s1 rfl ?_
            refine P_iload_n d_MD_meet_55 rfl ?_
            refine P_iload_n d_MD_meet_56 rfl ?_
            refine P_callV (M := M_MD_meet) (pc := 57) (as := [.ref 479, .int (nI a1N), .int (nI a2N)]) (b := 467) d_MD_meet_57 co_MD_crossesPoints ok_Model s1 L_MD_341 im_MD_crossesPoints se_MD_crossesPoints (s_MD_crossesPoints hI1 (by decide) kc_479 (by omega) a1N (by omega) a2N (by omega)) rfl ⟨by decide, by decide⟩ ⟨by decide, by decide⟩ (by exact le_b rfl) ?_ _ rfl
            rintro _ w12 ⟨rfl, hI12, hG12⟩
            have hF12 : Fr SN w w12 := Fr.tr hF1 hG12.1
            obtain ⟨th12, rm12, um12, sm12, em12⟩ := hG12.2 (nI tp) (nI qs) nq (nI un) ln nl sz at_ pl so vl wo fa fp lf lp ⟨_, _, _, _, s1⟩
            show PW _ _ _ _ _ _ (60, [(0, .ref 467), (1, .int (nI a1N)), (2, .int (nI a2N)), (3, .int (nI a3N)), (4, .int (nI a4N)), (5, .int (nI a5N))], [], w12)
            refine P_aload_n d_MD_meet_60 rfl ?_
            refine P_aload_n d_MD_meet_61 rfl ?_
            refine P_getf (i := 29) d_MD_meet_62 ok_Model (by decide) L_MD_53 em12 rfl ?_
            refine P_iload_n d_MD_meet_65 rfl ?_
            refine P_iload d_MD_meet_66 rfl ?_
            refine P_callV (M := M_MD_meet) (pc := 68) (as := [.ref 480, .int (nI a3N), .int (nI a4N)]) (b := 467) d_MD_meet_68 co_MD_crossesPoints ok_Model em12 L_MD_341 im_MD_crossesPoints se_MD_crossesPoints (s_MD_crossesPoints hI12 (by decide) kc_480 (by omega) a3N (by omega) a4N (by omega)) rfl ⟨by decide, by decide⟩ ⟨by decide, by decide⟩ (by exact le_b rfl) ?_ _ rfl
            rintro _ w13 ⟨rfl, hI13, hG13⟩
            have hF13 : Fr SN w w13 := Fr.tr hF12 hG13.1
            obtain ⟨th13, rm13, um13, sm13, em13⟩ := hG13.2 (nI tp) (nI qs) nq (nI un) ln nl sz at_ pl so vl wo fa fp lf lp ⟨_, _, _, _, em12⟩
            show PW _ _ _ _ _ _ (71, [(0, .ref 467), (1, .int (nI a1N)), (2, .int (nI a2N)), (3, .int (nI a3N)), (4, .int (nI a4N)), (5, .int (nI a5N))], [], w13)
            refine P_aload_n d_MD_meet_71 rfl ?_
            refine P_getf (i := 28) d_MD_meet_72 ok_Model (by decide) L_MD_50 em13 rfl ?_
            obtain ⟨f14, f14e⟩ := hI13.row (r := 479) (by decide) kc_479
            refine P_callS (M := M_MD_meet) (pc := 75) (as := [.ref 479]) d_MD_meet_75 co_MD_isNone L_MD_345 sm_MD_isNone (s_MD_isNone f14e) rfl ⟨by decide, by decide⟩ ⟨by decide, by decide⟩ (by exact le_b rfl) ?_ _ rfl
            rintro _ u ⟨⟨v15, rfl⟩, eu⟩
            subst u
            show PW _ _ _ _ _ _ (78, [(0, .ref 467), (1, .int (nI a1N)), (2, .int (nI a2N)), (3, .int (nI a3N)), (4, .int (nI a4N)), (5, .int (nI a5N))], [.int (bi v15)], w13)
            refine P_if_ne 91 d_MD_meet_78 (by decide) (fun c16 => ?_) (fun c16 => ?_)
            · refine P_ldc2 (v := (-100000000000)) d_MD_meet_91 L_MD_309 ?_
              exact P_lret d_MD_meet_94 rfl (le_b rfl) (le_b rfl) ⟨⟨_, rfl⟩, hI13, FrM.of hF13 ⟨_, _, _, _, em⟩ ⟨_, _, _, _, em13⟩⟩
            · refine P_aload_n d_MD_meet_81 rfl ?_
              refine P_getf (i := 29) d_MD_meet_82 ok_Model (by decide) L_MD_53 em13 rfl ?_
              obtain ⟨f17, f17e⟩ := hI13.row (r := 480) (by decide) kc_480
              refine P_callS (M := M_MD_meet) (pc := 85) (as := [.ref 480]) d_MD_meet_85 co_MD_isNone L_MD_345 sm_MD_isNone (s_MD_isNone f17e) rfl ⟨by decide, by decide⟩ ⟨by decide, by decide⟩ (by exact le_b rfl) ?_ _ rfl
              rintro _ u ⟨⟨v18, rfl⟩, eu⟩
              subst u
              show PW _ _ _ _ _ _ (88, [(0, .ref 467), (1, .int (nI a1N)), (2, .int (nI a2N)), (3, .int (nI a3N)), (4, .int (nI a4N)), (5, .int (nI a5N))], [.int (bi v18)], w13)
              refine P_if_eq 95 d_MD_meet_88 (by decide) (fun c19 => ?_) (fun c19 => ?_)
              · refine P_aload_n d_MD_meet_95 rfl ?_
                refine P_getf (i := 28) d_MD_meet_96 ok_Model (by decide) L_MD_50 em13 rfl ?_
                refine P_callS (M := M_MD_meet) (pc := 99) (as := [.ref 479]) d_MD_meet_99 co_MD_reduces L_MD_220 sm_MD_reduces (v_MD_reduces f14e (by decide) (by decide) (by decide)) rfl ⟨by decide, by decide⟩ ⟨by decide, by decide⟩ (by exact le_b rfl) ?_ _ rfl
                rintro _ w20 ⟨rfl, g20, e20⟩
                have s20 := w_s e20
                have hI20 : I w20 := hI13.setL e20 kc_479
                have hF20 : Fr SN w w20 := Fr.set hF13 e20 (SN_t (by omega))
                show PW _ _ _ _ _ _ (102, [(0, .ref 467), (1, .int (nI a1N)), (2, .int (nI a2N)), (3, .int (nI a3N)), (4, .int (nI a4N)), (5, .int (nI a5N))], [], w20)
                refine P_aload_n d_MD_meet_102 rfl ?_
                refine P_getf (i := 29) d_MD_meet_103 ok_Model (by decide) L_MD_53 ((w_n e20 _ (by decide)).trans em13) rfl ?_
                obtain ⟨f21, f21e⟩ := hI20.row (r := 480) (by decide) kc_480
                refine P_callS (M := M_MD_meet) (pc := 106) (as := [.ref 480]) d_MD_meet_106 co_MD_reduces L_MD_220 sm_MD_reduces (v_MD_reduces f21e (by decide) (by decide) (by decide)) rfl ⟨by decide, by decide⟩ ⟨by decide, by decide⟩ (by exact le_b rfl) ?_ _ rfl
                rintro _ w22 ⟨rfl, g22, e22⟩
                have s22 := w_s e22
                have hI22 : I w22 := hI20.setL e22 kc_480
                have hF22 : Fr SN w w22 := Fr.set hF20 e22 (SN_t (by omega))
                show PW _ _ _ _ _ _ (109, [(0, .ref 467), (1, .int (nI a1N)), (2, .int (nI a2N)), (3, .int (nI a3N)), (4, .int (nI a4N)), (5, .int (nI a5N))], [], w22)
                refine P_aload_n d_MD_meet_109 rfl ?_
                refine P_getf (i := 28) d_MD_meet_110 ok_Model (by decide) L_MD_50 ((w_n e22 _ (by decide)).trans ((w_n e20 _ (by decide)).trans em13)) rfl ?_
                refine P_iconst (v := 0) d_MD_meet_113 (by decide) ?_
                obtain ⟨f23, f23e⟩ := hI22.row (r := 479) (by decide) kc_479
                refine P_lald (j := 0) d_MD_meet_114 f23e ⟨by decide, by decide⟩ (by decide) ?_
                refine P_lstore d_MD_meet_115 (by decide) rfl ?_
                refine P_aload_n d_MD_meet_117 rfl ?_
                refine P_getf (i := 28) d_MD_meet_118 ok_Model (by decide) L_MD_50 ((w_n e22 _ (by decide)).trans ((w_n e20 _ (by decide)).trans em13)) rfl ?_
                refine P_iconst (v := 1) d_MD_meet_121 (by decide) ?_
                refine P_lald (j := 1) d_MD_meet_122 f23e ⟨by decide, by decide⟩ (by decide) ?_
                refine P_lstore d_MD_meet_123 (by decide) rfl ?_
                refine P_aload_n d_MD_meet_125 rfl ?_
                refine P_getf (i := 28) d_MD_meet_126 ok_Model (by decide) L_MD_50 ((w_n e22 _ (by decide)).trans ((w_n e20 _ (by decide)).trans em13)) rfl ?_
                refine P_iconst (v := 2) d_MD_meet_129 (by decide) ?_
                refine P_lald (j := 2) d_MD_meet_130 f23e ⟨by decide, by decide⟩ (by decide) ?_
                refine P_lstore d_MD_meet_131 (by decide) rfl ?_
                refine P_aload_n d_MD_meet_133 rfl ?_
                refine P_aload_n d_MD_meet_134 rfl ?_
                refine P_getf (i := 28) d_MD_meet_135 ok_Model (by decide) L_MD_50 ((w_n e22 _ (by decide)).trans ((w_n e20 _ (by decide)).trans em13)) rfl ?_
                refine P_lload d_MD_meet_138 rfl ?_
                refine P_lload d_MD_meet_140 rfl ?_
                refine P_lload d_MD_meet_142 rfl ?_
                refine P_aload_n d_MD_meet_144 rfl ?_
                refine P_getf (i := 29) d_MD_meet_145 ok_Model (by decide) L_MD_53 ((w_n e22 _ (by decide)).trans ((w_n e20 _ (by decide)).trans em13)) rfl ?_
                refine P_iconst (v := 0) d_MD_meet_148 (by decide) ?_
                refine P_lald (j := 0) d_MD_meet_149 s22 ⟨by decide, by decide⟩ (by decide) ?_
                refine P_aload_n d_MD_meet_150 rfl ?_
                refine P_getf (i := 29) d_MD_meet_151 ok_Model (by decide) L_MD_53 ((w_n e22 _ (by decide)).trans ((w_n e20 _ (by decide)).trans em13)) rfl ?_
                refine P_iconst (v := 1) d_MD_meet_154 (by decide) ?_
                refine P_lald (j := 1) d_MD_meet_155 s22 ⟨by decide, by decide⟩ (by decide) ?_
                refine P_aload_n d_MD_meet_156 rfl ?_
                refine P_getf (i := 29) d_MD_meet_157 ok_Model (by decide) L_MD_53 ((w_n e22 _ (by decide)).trans ((w_n e20 _ (by decide)).trans em13)) rfl ?_
                refine P_iconst (v := 2) d_MD_meet_160 (by decide) ?_
                refine P_lald (j := 2) d_MD_meet_161 s22 ⟨by decide, by decide⟩ (by decide) ?_
                refine P_callV (M := M_MD_meet) (pc := 162) (as := [.ref 479, .long (f23 0), .long (f23 1), .long (f23 2), .long (g22 0), .long (g22 1), .long (g22 2)]) (b := 467) d_MD_meet_162 co_MD_crosses ok_Model ((w_n e22 _ (by decide)).trans ((w_n e20 _ (by decide)).trans em13)) L_MD_337 im_MD_crosses se_MD_crosses (s_MD_crosses hI22 (by decide) kc_479 (by omega) (f23 0) (f23 1) (f23 2) (g22 0) (g22 1) (g22 2)) rfl ⟨by decide, by decide⟩ ⟨by decide, by decide⟩ (by exact le_b rfl) ?_ _ rfl
                rintro _ w24 ⟨rfl, hI24, hG24⟩
                have hF24 : Fr SN w w24 := Fr.tr hF22 hG24.1
                obtain ⟨th24, rm24, um24, sm24, em24⟩ := hG24.2 (nI tp) (nI qs) nq (nI un) ln nl sz at_ pl so vl wo fa fp lf lp ⟨_, _, _, _, ((w_n e22 _ (by decide)).trans ((w_n e20 _ (by decide)).trans em13))⟩
                show PW _ _ _ _ _ _ (165, [(0, .ref 467), (1, .int (nI a1N)), (2, .int (nI a2N)), (3, .int (nI a3N)), (4, .int (nI a4N)), (5, .int (nI a5N)), (6, .long (f23 0)), (8, .long (f23 1)), (10, .long (f23 2))], [], w24)
                refine P_aload_n d_MD_meet_165 rfl ?_
                refine P_getf (i := 28) d_MD_meet_166 ok_Model (by decide) L_MD_50 em24 rfl ?_
                obtain ⟨f25, f25e⟩ := hI24.row (r := 479) (by decide) kc_479
                refine P_callS (M := M_MD_meet) (pc := 169) (as := [.ref 479]) d_MD_meet_169 co_MD_isNone L_MD_345 sm_MD_isNone (s_MD_isNone f25e) rfl ⟨by decide, by decide⟩ ⟨by decide, by decide⟩ (by exact le_b rfl) ?_ _ rfl
                rintro _ u ⟨⟨v26, rfl⟩, eu⟩
                subst u
                show PW _ _ _ _ _ _ (172, [(0, .ref 467), (1, .int (nI a1N)), (2, .int (nI a2N)), (3, .int (nI a3N)), (4, .int (nI a4N)), (5, .int (nI a5N)), (6, .long (f23 0)), (8, .long (f23 1)), (10, .long (f23 2))], [.int (bi v26)], w24)
                refine P_if_eq 179 d_MD_meet_172 (by decide) (fun c27 => ?_) (fun c27 => ?_)
                · refine P_aload_n d_MD_meet_179 rfl ?_
                  refine P_getf (i := 28) d_MD_meet_180 ok_Model (by decide) L_MD_50 em24 rfl ?_
                  refine P_callS (M := M_MD_meet) (pc := 183) (as := [.ref 479]) d_MD_meet_183 co_MD_reduces L_MD_220 sm_MD_reduces (v_MD_reduces f25e (by decide) (by decide) (by decide)) rfl ⟨by decide, by decide⟩ ⟨by decide, by decide⟩ (by exact le_b rfl) ?_ _ rfl
                  rintro _ w28 ⟨rfl, g28, e28⟩
                  have s28 := w_s e28
                  have hI28 : I w28 := hI24.setL e28 kc_479
                  have hF28 : Fr SN w w28 := Fr.set hF24 e28 (SN_t (by omega))
                  show PW _ _ _ _ _ _ (186, [(0, .ref 467), (1, .int (nI a1N)), (2, .int (nI a2N)), (3, .int (nI a3N)), (4, .int (nI a4N)), (5, .int (nI a5N)), (6, .long (f23 0)), (8, .long (f23 1)), (10, .long (f23 2))], [], w28)
                  refine P_aload_n d_MD_meet_186 rfl ?_
                  refine P_getf (i := 28) d_MD_meet_187 ok_Model (by decide) L_MD_50 ((w_n e28 _ (by decide)).trans em24) rfl ?_
                  refine P_iload d_MD_meet_190 rfl ?_
                  refine P_lald (j := a5N) d_MD_meet_192 s28 (ix_nI (by omega)) (by omega) ?_
                  exact P_lret d_MD_meet_193 rfl (le_b rfl) (le_b rfl) ⟨⟨_, rfl⟩, hI28, FrM.of hF28 ⟨_, _, _, _, em⟩ ⟨_, _, _, _, ((w_n e28 _ (by decide)).trans em24)⟩⟩
                · refine P_ldc2 (v := (-100000000000)) d_MD_meet_175 L_MD_309 ?_
                  exact P_lret d_MD_meet_178 rfl (le_b rfl) (le_b rfl) ⟨⟨_, rfl⟩, hI24, FrM.of hF24 ⟨_, _, _, _, em⟩ ⟨_, _, _, _, em24⟩⟩
              · refine P_ldc2 (v := (-100000000000)) d_MD_meet_91 L_MD_309 ?_
                exact P_lret d_MD_meet_94 rfl (le_b rfl) (le_b rfl) ⟨⟨_, rfl⟩, hI13, FrM.of hF13 ⟨_, _, _, _, em⟩ ⟨_, _, _, _, em13⟩⟩
          · refine P_ldc2 (v := (-9223372036854775808)) d_MD_meet_46 L_MD_307 ?_
            exact P_lret d_MD_meet_49 rfl (le_b rfl) (le_b rfl) ⟨⟨_, rfl⟩, hI1, FrM.of hF1 ⟨_, _, _, _, em⟩ ⟨_, _, _, _, s1⟩⟩
theorem s_MD_track {G : pG} {w : pW} (hI : I w) (a1 : Int32) (a2 : Int32) (a3 : Int32) (a4 : Int32) : PM G M_MD_track 6 0 0 [.ref 467, .int a1, .int a2, .int a3, .int a4] w (fun r w' => (∃ v, r = some (.long v)) ∧ I w' ∧ FrM w w') := by
  refine PM_of pn_MD_track (le_b rfl) ?_
  show PW _ _ _ _ _ _ (0, [(0, .ref 467), (1, .int a1), (2, .int a2), (3, .int a3), (4, .int a4)], [], w)
  obtain ⟨tp, qs, un, nq, ln, nl, sz, at_, pl, so, vl, wo, fa, fp, lf, lp, th, rm, um, sm, htp, hqs, hun, em⟩ := hI.md
  obtain ⟨fn, nm, np, en, hnm, e8, hnp, e9⟩ := hI.now
  refine P_aload_n d_MD_track_0 rfl ?_
  refine P_iconst (v := 0) d_MD_track_1 (by decide) ?_
  refine P_putG (i := 0) d_MD_track_2 ok_Model (by decide) rfl L_MD_74 em (fun _ => rfl) (fun _ => rfl) (fun w1 e1 s1 n1 z1 => ?_)
  have hI1 : I w1 := hI.setM (show w1 = (_, wu _ 467 (mO (nI tp) (nI qs) nq (nI un) ln nl sz at_ pl so vl wo fa fp lf lp 0 rm um sm)) from e1) htp hqs hun
  have hF1 : Fr SN w w1 := Fr.set Fr.rf e1 (SN_t (by omega))
  show PW _ _ _ _ _ _ (5, [(0, .ref 467), (1, .int a1), (2, .int a2), (3, .int a3), (4, .int a4)], [], w1)
  refine P_aload_n d_MD_track_5 rfl ?_
  refine P_iload_n d_MD_track_6 rfl ?_
  refine P_callV (M := M_MD_track) (pc := 7) (as := [.int a1]) (b := 467) d_MD_track_7 co_MD_isMap ok_Model s1 L_MD_241 im_MD_isMap se_MD_isMap (s_MD_isMap a1 s1 htp hqs hun ((hF1.2 _ (SN_f (by omega))).trans en) hnm e8 hnp e9) rfl ⟨by decide, by decide⟩ ⟨by decide, by decide⟩ (by exact le_b rfl) ?_ _ rfl
  rintro _ u ⟨rfl, eu⟩
  subst u
  show PW _ _ _ _ _ _ (10, [(0, .ref 467), (1, .int a1), (2, .int a2), (3, .int a3), (4, .int a4)], [.int (bi (inN nm a1))], w1)
  refine P_if_eq 39 d_MD_track_10 (by decide) (fun c3 => ?_) (fun c3 => ?_)
  · refine P_ldc2 (v := (-9223372036854775808)) d_MD_track_39 L_MD_307 ?_
    exact P_lret d_MD_track_42 rfl (le_b rfl) (le_b rfl) ⟨⟨_, rfl⟩, hI1, FrM.of hF1 ⟨_, _, _, _, em⟩ ⟨_, _, _, _, s1⟩⟩
  · obtain ⟨a1N, ha1N, rfl⟩ := inN_of (bi_1 c3) (by omega)
    refine P_aload_n d_MD_track_13 rfl ?_
    refine P_iload_n d_MD_track_14 rfl ?_
    refine P_callV (M := M_MD_track) (pc := 15) (as := [.int a2]) (b := 467) d_MD_track_15 co_MD_isPoint ok_Model s1 L_MD_247 im_MD_isPoint se_MD_isPoint (s_MD_isPoint a2 s1 htp hqs hun ((hF1.2 _ (SN_f (by omega))).trans en) hnm e8 hnp e9) rfl ⟨by decide, by decide⟩ ⟨by decide, by decide⟩ (by exact le_b rfl) ?_ _ rfl
    rintro _ u ⟨rfl, eu⟩
    subst u
    show PW _ _ _ _ _ _ (18, [(0, .ref 467), (1, .int (nI a1N)), (2, .int a2), (3, .int a3), (4, .int a4)], [.int (bi (inN np a2))], w1)
    refine P_if_eq 39 d_MD_track_18 (by decide) (fun c5 => ?_) (fun c5 => ?_)
    · refine P_ldc2 (v := (-9223372036854775808)) d_MD_track_39 L_MD_307 ?_
      exact P_lret d_MD_track_42 rfl (le_b rfl) (le_b rfl) ⟨⟨_, rfl⟩, hI1, FrM.of hF1 ⟨_, _, _, _, em⟩ ⟨_, _, _, _, s1⟩⟩
    · obtain ⟨a2N, ha2N, rfl⟩ := inN_of (bi_1 c5) (by omega)
      refine P_iload_n d_MD_track_21 rfl ?_
      refine P_if_lt 39 d_MD_track_22 (by decide) (fun c6 => ?_) (fun c6 => ?_)
      · refine P_ldc2 (v := (-9223372036854775808)) d_MD_track_39 L_MD_307 ?_
        exact P_lret d_MD_track_42 rfl (le_b rfl) (le_b rfl) ⟨⟨_, rfl⟩, hI1, FrM.of hF1 ⟨_, _, _, _, em⟩ ⟨_, _, _, _, s1⟩⟩
      · refine P_iload_n d_MD_track_25 rfl ?_
        refine P_bipush (v := 20) d_MD_track_26 (by decide) ?_
        refine P_icmp_gt 39 d_MD_track_28 (by decide) (fun c7 => ?_) (fun c7 => ?_)
        · refine P_ldc2 (v := (-9223372036854775808)) d_MD_track_39 L_MD_307 ?_
          exact P_lret d_MD_track_42 rfl (le_b rfl) (le_b rfl) ⟨⟨_, rfl⟩, hI1, FrM.of hF1 ⟨_, _, _, _, em⟩ ⟨_, _, _, _, s1⟩⟩
        · obtain ⟨a3N, ha3N, rfl⟩ := nI_of_gt (n := 20) c6 c7 rfl
          refine P_iload d_MD_track_31 rfl ?_
          refine P_callS (M := M_MD_track) (pc := 33) (as := [.int a4]) d_MD_track_33 co_MD_isThird L_MD_244 sm_MD_isThird (s_MD_isThird a4) rfl ⟨by decide, by decide⟩ ⟨by decide, by decide⟩ (by exact le_b rfl) ?_ _ rfl
          rintro _ u ⟨rfl, eu⟩
          subst u
          show PW _ _ _ _ _ _ (36, [(0, .ref 467), (1, .int (nI a1N)), (2, .int (nI a2N)), (3, .int (nI a3N)), (4, .int a4)], [.int (bi (inN 3 a4))], w1)
          refine P_if_ne 43 d_MD_track_36 (by decide) (fun c9 => ?_) (fun c9 => ?_)
          · obtain ⟨a4N, ha4N, rfl⟩ := inN_of (bi_1 c9) (by omega)
            refine P_aload_n d_MD_track_43 rfl ?_
            refine P_iload_n d_MD_track_44 rfl ?_
            refine P_iload_n d_MD_track_45 rfl ?_
            refine P_iload_n d_MD_track_46 rfl ?_
            refine P_callV (M := M_MD_track) (pc := 47) (as := [.int (nI a1N), .int (nI a2N), .int (nI a3N)]) (b := 467) d_MD_track_47 co_MD_tracks ok_Model s1 L_MD_365 im_MD_tracks se_MD_tracks (s_MD_tracks hI1 a1N (by omega) a2N (by omega) a3N (by omega)) rfl ⟨by decide, by decide⟩ ⟨by decide, by decide⟩ (by exact le_b rfl) ?_ _ rfl
            rintro _ w10 ⟨⟨v10, rfl⟩, hI10, hG10⟩
            have hF10 : Fr SN w w10 := Fr.tr hF1 hG10.1
            obtain ⟨th10, rm10, um10, sm10, em10⟩ := hG10.2 (nI tp) (nI qs) nq (nI un) ln nl sz at_ pl so vl wo fa fp lf lp ⟨_, _, _, _, s1⟩
            show PW _ _ _ _ _ _ (50, [(0, .ref 467), (1, .int (nI a1N)), (2, .int (nI a2N)), (3, .int (nI a3N)), (4, .int (nI a4N))], [.int (bi v10)], w10)
            refine P_if_eq 63 d_MD_track_50 (by decide) (fun c11 => ?_) (fun c11 => ?_)
            · refine P_ldc2 (v := (-100000000000)) d_MD_track_63 L_MD_309 ?_
              exact P_lret d_MD_track_66 rfl (le_b rfl) (le_b rfl) ⟨⟨_, rfl⟩, hI10, FrM.of hF10 ⟨_, _, _, _, em⟩ ⟨_, _, _, _, em10⟩⟩
            · refine P_aload_n d_MD_track_53 rfl ?_
              refine P_getf (i := 28) d_MD_track_54 ok_Model (by decide) L_MD_50 em10 rfl ?_
              refine P_iload d_MD_track_57 rfl ?_
              obtain ⟨f12, f12e⟩ := hI10.row (r := 479) (by decide) kc_479
              refine P_lald (j := a4N) d_MD_track_59 f12e (ix_nI (by omega)) (by omega) ?_
              refine P_goto 66 d_MD_track_60 (by decide) ?_
              exact P_lret d_MD_track_66 rfl (le_b rfl) (le_b rfl) ⟨⟨_, rfl⟩, hI10, FrM.of hF10 ⟨_, _, _, _, em⟩ ⟨_, _, _, _, em10⟩⟩
          · refine P_ldc2 (v := (-9223372036854775808)) d_MD_track_39 L_MD_307 ?_
            exact P_lret d_MD_track_42 rfl (le_b rfl) (le_b rfl) ⟨⟨_, rfl⟩, hI1, FrM.of hF1 ⟨_, _, _, _, em⟩ ⟨_, _, _, _, s1⟩⟩
theorem s_MD_cycle {G : pG} {w : pW} (hI : I w) (a1 : Int32) (a2 : Int32) : PM G M_MD_cycle 6 0 0 [.ref 467, .int a1, .int a2] w (fun r w' => (∃ v, r = some (.int v)) ∧ I w' ∧ FrM w w') := by
  refine PM_of pn_MD_cycle (le_b rfl) ?_
  show PW _ _ _ _ _ _ (0, [(0, .ref 467), (1, .int a1), (2, .int a2)], [], w)
  obtain ⟨tp, qs, un, nq, ln, nl, sz, at_, pl, so, vl, wo, fa, fp, lf, lp, th, rm, um, sm, htp, hqs, hun, em⟩ := hI.md
  obtain ⟨fn, nm, np, en, hnm, e8, hnp, e9⟩ := hI.now
  refine P_aload_n d_MD_cycle_0 rfl ?_
  refine P_iconst (v := 0) d_MD_cycle_1 (by decide) ?_
  refine P_putG (i := 0) d_MD_cycle_2 ok_Model (by decide) rfl L_MD_74 em (fun _ => rfl) (fun _ => rfl) (fun w1 e1 s1 n1 z1 => ?_)
  have hI1 : I w1 := hI.setM (show w1 = (_, wu _ 467 (mO (nI tp) (nI qs) nq (nI un) ln nl sz at_ pl so vl wo fa fp lf lp 0 rm um sm)) from e1) htp hqs hun
  have hF1 : Fr SN w w1 := Fr.set Fr.rf e1 (SN_t (by omega))
  show PW _ _ _ _ _ _ (5, [(0, .ref 467), (1, .int a1), (2, .int a2)], [], w1)
  refine P_aload_n d_MD_cycle_5 rfl ?_
  refine P_iload_n d_MD_cycle_6 rfl ?_
  refine P_callV (M := M_MD_cycle) (pc := 7) (as := [.int a1]) (b := 467) d_MD_cycle_7 co_MD_isMap ok_Model s1 L_MD_241 im_MD_isMap se_MD_isMap (s_MD_isMap a1 s1 htp hqs hun ((hF1.2 _ (SN_f (by omega))).trans en) hnm e8 hnp e9) rfl ⟨by decide, by decide⟩ ⟨by decide, by decide⟩ (by exact le_b rfl) ?_ _ rfl
  rintro _ u ⟨rfl, eu⟩
  subst u
  show PW _ _ _ _ _ _ (10, [(0, .ref 467), (1, .int a1), (2, .int a2)], [.int (bi (inN nm a1))], w1)
  refine P_if_eq 21 d_MD_cycle_10 (by decide) (fun c3 => ?_) (fun c3 => ?_)
  · refine P_iconst (v := (-1)) d_MD_cycle_21 (by decide) ?_
    exact P_iret d_MD_cycle_22 rfl (le_b rfl) (le_b rfl) ⟨⟨_, rfl⟩, hI1, FrM.of hF1 ⟨_, _, _, _, em⟩ ⟨_, _, _, _, s1⟩⟩
  · obtain ⟨a1N, ha1N, rfl⟩ := inN_of (bi_1 c3) (by omega)
    refine P_aload_n d_MD_cycle_13 rfl ?_
    refine P_iload_n d_MD_cycle_14 rfl ?_
    refine P_callV (M := M_MD_cycle) (pc := 15) (as := [.int a2]) (b := 467) d_MD_cycle_15 co_MD_isPoint ok_Model s1 L_MD_247 im_MD_isPoint se_MD_isPoint (s_MD_isPoint a2 s1 htp hqs hun ((hF1.2 _ (SN_f (by omega))).trans en) hnm e8 hnp e9) rfl ⟨by decide, by decide⟩ ⟨by decide, by decide⟩ (by exact le_b rfl) ?_ _ rfl
    rintro _ u ⟨rfl, eu⟩
    subst u
    show PW _ _ _ _ _ _ (18, [(0, .ref 467), (1, .int (nI a1N)), (2, .int a2)], [.int (bi (inN np a2))], w1)
    refine P_if_ne 23 d_MD_cycle_18 (by decide) (fun c5 => ?_) (fun c5 => ?_)
    · obtain ⟨a2N, ha2N, rfl⟩ := inN_of (bi_1 c5) (by omega)
      refine P_iconst (v := 1) d_MD_cycle_23 (by decide) ?_
      refine P_istore_n d_MD_cycle_24 (by decide) rfl ?_
      refine PW_ind (σ := pW) (21) (fun jj ss => I (ss) ∧ Fr SN w (ss) ∧ MS (nI tp) (nI qs) nq (nI un) ln nl sz at_ pl so vl wo fa fp lf lp ((ss).2 467)) (fun jj ss => (25, [(0, .ref 467), (1, .int (nI a1N)), (2, .int (nI a2N)), (3, .int (nI jj))], [], ss)) ?_ ?_ 1 (w1) (by omega) ⟨hI1, hF1, ⟨_, _, _, _, s1⟩⟩
      · rintro uj6 ⟨hIj6, hFj6, ⟨thj6, rmj6, umj6, smj6, emj6⟩⟩
        show PW _ _ _ _ _ _ (25, [(0, .ref 467), (1, .int (nI a1N)), (2, .int (nI a2N)), (3, .int 21)], [], uj6)
        refine P_iload_n d_MD_cycle_25 rfl ?_
        refine P_bipush (v := 20) d_MD_cycle_26 (by decide) ?_
        refine P_icmp_gt 60 d_MD_cycle_28 (by decide) (fun _ => ?_) (fun h => absurd (by decide) h)
        refine P_bipush (v := (-2)) d_MD_cycle_60 (by decide) ?_
        exact P_iret d_MD_cycle_62 rfl (le_b rfl) (le_b rfl) ⟨⟨_, rfl⟩, hIj6, FrM.of hFj6 ⟨_, _, _, _, em⟩ ⟨_, _, _, _, emj6⟩⟩
      · rintro j6 uj6 hj6 ⟨hIj6, hFj6, ⟨thj6, rmj6, umj6, smj6, emj6⟩⟩ kkj6
        show PW _ _ _ _ _ _ (25, [(0, .ref 467), (1, .int (nI a1N)), (2, .int (nI a2N)), (3, .int (nI j6))], [], uj6)
        refine P_iload_n d_MD_cycle_25 rfl ?_
        refine P_bipush (v := 20) d_MD_cycle_26 (by decide) ?_
        refine P_icmp_gt 60 d_MD_cycle_28 (by decide) (fun h => absurd h (nI_gtF (a := j6) (b := 20) (by omega) (by omega))) (fun _ => ?_)
        refine P_aload_n d_MD_cycle_31 rfl ?_
        refine P_iload_n d_MD_cycle_32 rfl ?_
        refine P_iload_n d_MD_cycle_33 rfl ?_
        refine P_iload_n d_MD_cycle_34 rfl ?_
        refine P_callV (M := M_MD_cycle) (pc := 35) (as := [.int (nI a1N), .int (nI a2N), .int (nI j6)]) (b := 467) d_MD_cycle_35 co_MD_tracks ok_Model emj6 L_MD_365 im_MD_tracks se_MD_tracks (s_MD_tracks hIj6 a1N (by omega) a2N (by omega) j6 (by omega)) rfl ⟨by decide, by decide⟩ ⟨by decide, by decide⟩ (by exact le_b rfl) ?_ _ rfl
        rintro _ w7 ⟨⟨v7, rfl⟩, hI7, hG7⟩
        have hF7 : Fr SN w w7 := Fr.tr hFj6 hG7.1
        obtain ⟨th7, rm7, um7, sm7, em7⟩ := hG7.2 (nI tp) (nI qs) nq (nI un) ln nl sz at_ pl so vl wo fa fp lf lp ⟨_, _, _, _, emj6⟩
        show PW _ _ _ _ _ _ (38, [(0, .ref 467), (1, .int (nI a1N)), (2, .int (nI a2N)), (3, .int (nI j6))], [.int (bi v7)], w7)
        refine P_if_ne 44 d_MD_cycle_38 (by decide) (fun c8 => ?_) (fun c8 => ?_)
        · refine P_aload_n d_MD_cycle_44 rfl ?_
          refine P_iload_n d_MD_cycle_45 rfl ?_
          obtain ⟨f9, f9e⟩ := hI7.row (r := 479) (by decide) kc_479
          refine P_callV (M := M_MD_cycle) (pc := 46) (as := [.int (nI a2N)]) (b := 467) d_MD_cycle_46 co_MD_isAt ok_Model em7 L_MD_368 im_MD_isAt se_MD_isAt (s_MD_isAt a2N (by omega) em7 htp hqs hun ((hF7.2 _ (SN_f (by omega))).trans en) hnm e8 hnp e9 f9e) rfl ⟨by decide, by decide⟩ ⟨by decide, by decide⟩ (by exact le_b rfl) ?_ _ rfl
          rintro _ u ⟨⟨v10, rfl⟩, eu⟩
          subst u
          show PW _ _ _ _ _ _ (49, [(0, .ref 467), (1, .int (nI a1N)), (2, .int (nI a2N)), (3, .int (nI j6))], [.int (bi v10)], w7)
          refine P_if_eq 54 d_MD_cycle_49 (by decide) (fun c11 => ?_) (fun c11 => ?_)
          · refine P_iinc (v := nI (j6 + 1)) d_MD_cycle_54 (by decide) rfl (nI_add j6 1) rfl ?_
            refine P_goto 25 d_MD_cycle_57 (by decide) ?_
            exact kkj6 (w7) ⟨hI7, hF7, ⟨_, _, _, _, em7⟩⟩
          · refine P_iload_n d_MD_cycle_52 rfl ?_
            exact P_iret d_MD_cycle_53 rfl (le_b rfl) (le_b rfl) ⟨⟨_, rfl⟩, hI7, FrM.of hF7 ⟨_, _, _, _, em⟩ ⟨_, _, _, _, em7⟩⟩
        · refine P_bipush (v := (-2)) d_MD_cycle_41 (by decide) ?_
          exact P_iret d_MD_cycle_43 rfl (le_b rfl) (le_b rfl) ⟨⟨_, rfl⟩, hI7, FrM.of hF7 ⟨_, _, _, _, em⟩ ⟨_, _, _, _, em7⟩⟩
    · refine P_iconst (v := (-1)) d_MD_cycle_21 (by decide) ?_
      exact P_iret d_MD_cycle_22 rfl (le_b rfl) (le_b rfl) ⟨⟨_, rfl⟩, hI1, FrM.of hF1 ⟨_, _, _, _, em⟩ ⟨_, _, _, _, s1⟩⟩
theorem s_MD_leads {G : pG} {w : pW} (hI : I w) (a1 : Int32) (a2 : Int32) (a3 : Int32) : PM G M_MD_leads 6 0 0 [.ref 467, .int a1, .int a2, .int a3] w (fun r w' => (∃ v, r = some (.int v)) ∧ I w' ∧ FrM w w') := by
  refine PM_of pn_MD_leads (le_b rfl) ?_
  show PW _ _ _ _ _ _ (0, [(0, .ref 467), (1, .int a1), (2, .int a2), (3, .int a3)], [], w)
  obtain ⟨tp, qs, un, nq, ln, nl, sz, at_, pl, so, vl, wo, fa, fp, lf, lp, th, rm, um, sm, htp, hqs, hun, em⟩ := hI.md
  obtain ⟨fn, nm, np, en, hnm, e8, hnp, e9⟩ := hI.now
  refine P_aload_n d_MD_leads_0 rfl ?_
  refine P_iconst (v := 0) d_MD_leads_1 (by decide) ?_
  refine P_putG (i := 0) d_MD_leads_2 ok_Model (by decide) rfl L_MD_74 em (fun _ => rfl) (fun _ => rfl) (fun w1 e1 s1 n1 z1 => ?_)
  have hI1 : I w1 := hI.setM (show w1 = (_, wu _ 467 (mO (nI tp) (nI qs) nq (nI un) ln nl sz at_ pl so vl wo fa fp lf lp 0 rm um sm)) from e1) htp hqs hun
  have hF1 : Fr SN w w1 := Fr.set Fr.rf e1 (SN_t (by omega))
  show PW _ _ _ _ _ _ (5, [(0, .ref 467), (1, .int a1), (2, .int a2), (3, .int a3)], [], w1)
  refine P_aload_n d_MD_leads_5 rfl ?_
  refine P_iload_n d_MD_leads_6 rfl ?_
  refine P_callV (M := M_MD_leads) (pc := 7) (as := [.int a1]) (b := 467) d_MD_leads_7 co_MD_isPoint ok_Model s1 L_MD_247 im_MD_isPoint se_MD_isPoint (s_MD_isPoint a1 s1 htp hqs hun ((hF1.2 _ (SN_f (by omega))).trans en) hnm e8 hnp e9) rfl ⟨by decide, by decide⟩ ⟨by decide, by decide⟩ (by exact le_b rfl) ?_ _ rfl
  rintro _ u ⟨rfl, eu⟩
  subst u
  show PW _ _ _ _ _ _ (10, [(0, .ref 467), (1, .int a1), (2, .int a2), (3, .int a3)], [.int (bi (inN np a1))], w1)
  refine P_if_eq 31 d_MD_leads_10 (by decide) (fun c3 => ?_) (fun c3 => ?_)
  · refine P_iconst (v := (-1)) d_MD_leads_31 (by decide) ?_
    exact P_iret d_MD_leads_32 rfl (le_b rfl) (le_b rfl) ⟨⟨_, rfl⟩, hI1, FrM.of hF1 ⟨_, _, _, _, em⟩ ⟨_, _, _, _, s1⟩⟩
  · obtain ⟨a1N, ha1N, rfl⟩ := inN_of (bi_1 c3) (by omega)
    refine P_aload_n d_MD_leads_13 rfl ?_
    refine P_iload_n d_MD_leads_14 rfl ?_
    refine P_callV (M := M_MD_leads) (pc := 15) (as := [.int a2]) (b := 467) d_MD_leads_15 co_MD_isPoint ok_Model s1 L_MD_247 im_MD_isPoint se_MD_isPoint (s_MD_isPoint a2 s1 htp hqs hun ((hF1.2 _ (SN_f (by omega))).trans en) hnm e8 hnp e9) rfl ⟨by decide, by decide⟩ ⟨by decide, by decide⟩ (by exact le_b rfl) ?_ _ rfl
    rintro _ u ⟨rfl, eu⟩
    subst u
    show PW _ _ _ _ _ _ (18, [(0, .ref 467), (1, .int (nI a1N)), (2, .int a2), (3, .int a3)], [.int (bi (inN np a2))], w1)
    refine P_if_eq 31 d_MD_leads_18 (by decide) (fun c5 => ?_) (fun c5 => ?_)
    · refine P_iconst (v := (-1)) d_MD_leads_31 (by decide) ?_
      exact P_iret d_MD_leads_32 rfl (le_b rfl) (le_b rfl) ⟨⟨_, rfl⟩, hI1, FrM.of hF1 ⟨_, _, _, _, em⟩ ⟨_, _, _, _, s1⟩⟩
    · obtain ⟨a2N, ha2N, rfl⟩ := inN_of (bi_1 c5) (by omega)
      refine P_iload_n d_MD_leads_21 rfl ?_
      refine P_iconst (v := 1) d_MD_leads_22 (by decide) ?_
      refine P_icmp_lt 31 d_MD_leads_23 (by decide) (fun c6 => ?_) (fun c6 => ?_)
      · refine P_iconst (v := (-1)) d_MD_leads_31 (by decide) ?_
        exact P_iret d_MD_leads_32 rfl (le_b rfl) (le_b rfl) ⟨⟨_, rfl⟩, hI1, FrM.of hF1 ⟨_, _, _, _, em⟩ ⟨_, _, _, _, s1⟩⟩
      · refine P_iload_n d_MD_leads_26 rfl ?_
        refine P_iconst (v := 3) d_MD_leads_27 (by decide) ?_
        refine P_icmp_le 33 d_MD_leads_28 (by decide) (fun c7 => ?_) (fun c7 => ?_)
        · obtain ⟨a3N, ha3N, rfl⟩ := nI_of_le (n := 3) (lt_z (n := 1) c6 rfl) c7 rfl
          refine P_iconst (v := 0) d_MD_leads_33 (by decide) ?_
          refine P_istore d_MD_leads_34 (by decide) rfl ?_
          refine PW_ind (σ := pW) (nm) (fun jj ss => I (ss) ∧ Fr SN w (ss) ∧ MS (nI tp) (nI qs) nq (nI un) ln nl sz at_ pl so vl wo fa fp lf lp ((ss).2 467)) (fun jj ss => (36, [(0, .ref 467), (1, .int (nI a1N)), (2, .int (nI a2N)), (3, .int (nI a3N)), (4, .int (nI jj))], [], ss)) ?_ ?_ 0 (w1) (by omega) ⟨hI1, hF1, ⟨_, _, _, _, s1⟩⟩
          · rintro uj8 ⟨hIj8, hFj8, ⟨thj8, rmj8, umj8, smj8, emj8⟩⟩
            show PW _ _ _ _ _ _ (36, [(0, .ref 467), (1, .int (nI a1N)), (2, .int (nI a2N)), (3, .int (nI a3N)), (4, .int (nI nm))], [], uj8)
            refine P_iload d_MD_leads_36 rfl ?_
            refine P_i2lN (n1 := nm) d_MD_leads_38 (by omega) ?_
            refine P_aload_n d_MD_leads_39 rfl ?_
            refine P_getf (i := 7) d_MD_leads_40 ok_Model (by decide) L_MD_21 emj8 rfl ?_
            refine P_sipush (v := 168) d_MD_leads_43 (by decide) ?_
            refine P_lald (j := 168) d_MD_leads_46 ((hFj8.2 _ (SN_f (by omega))).trans en) ⟨by decide, by decide⟩ (by decide) ?_
            rw [e8]
            show PW _ _ _ _ _ _ (47, [(0, .ref 467), (1, .int (nI a1N)), (2, .int (nI a2N)), (3, .int (nI a3N)), (4, .int (nI nm))], [.long (lN nm), .long (lN nm)], uj8)
            refine P_lcmpN (a := nm) (b := nm) d_MD_leads_47 (by omega) (by omega) ?_
            show PW _ _ _ _ _ _ (48, [(0, .ref 467), (1, .int (nI a1N)), (2, .int (nI a2N)), (3, .int (nI a3N)), (4, .int (nI nm))], [.int (cN nm nm)], uj8)
            refine P_if_ge 79 d_MD_leads_48 (by decide) (fun _ => ?_) (fun h => absurd (cN_self nm) h)
            refine P_bipush (v := (-2)) d_MD_leads_79 (by decide) ?_
            exact P_iret d_MD_leads_81 rfl (le_b rfl) (le_b rfl) ⟨⟨_, rfl⟩, hIj8, FrM.of hFj8 ⟨_, _, _, _, em⟩ ⟨_, _, _, _, emj8⟩⟩
          · rintro j8 uj8 hj8 ⟨hIj8, hFj8, ⟨thj8, rmj8, umj8, smj8, emj8⟩⟩ kkj8
            show PW _ _ _ _ _ _ (36, [(0, .ref 467), (1, .int (nI a1N)), (2, .int (nI a2N)), (3, .int (nI a3N)), (4, .int (nI j8))], [], uj8)
            refine P_iload d_MD_leads_36 rfl ?_
            refine P_i2lN (n1 := j8) d_MD_leads_38 (by omega) ?_
            refine P_aload_n d_MD_leads_39 rfl ?_
            refine P_getf (i := 7) d_MD_leads_40 ok_Model (by decide) L_MD_21 emj8 rfl ?_
            refine P_sipush (v := 168) d_MD_leads_43 (by decide) ?_
            refine P_lald (j := 168) d_MD_leads_46 ((hFj8.2 _ (SN_f (by omega))).trans en) ⟨by decide, by decide⟩ (by decide) ?_
            rw [e8]
            show PW _ _ _ _ _ _ (47, [(0, .ref 467), (1, .int (nI a1N)), (2, .int (nI a2N)), (3, .int (nI a3N)), (4, .int (nI j8))], [.long (lN nm), .long (lN j8)], uj8)
            refine P_lcmpN (a := j8) (b := nm) d_MD_leads_47 (by omega) (by omega) ?_
            show PW _ _ _ _ _ _ (48, [(0, .ref 467), (1, .int (nI a1N)), (2, .int (nI a2N)), (3, .int (nI a3N)), (4, .int (nI j8))], [.int (cN j8 nm)], uj8)
            refine P_if_ge 79 d_MD_leads_48 (by decide) (fun h => absurd h (cN_ltF (by omega))) (fun _ => ?_)
            refine P_aload_n d_MD_leads_51 rfl ?_
            refine P_iload d_MD_leads_52 rfl ?_
            refine P_iload_n d_MD_leads_54 rfl ?_
            refine P_iload_n d_MD_leads_55 rfl ?_
            refine P_callV (M := M_MD_leads) (pc := 56) (as := [.int (nI j8), .int (nI a1N), .int (nI a3N)]) (b := 467) d_MD_leads_56 co_MD_tracks ok_Model emj8 L_MD_365 im_MD_tracks se_MD_tracks (s_MD_tracks hIj8 j8 (by omega) a1N (by omega) a3N (by omega)) rfl ⟨by decide, by decide⟩ ⟨by decide, by decide⟩ (by exact le_b rfl) ?_ _ rfl
            rintro _ w9 ⟨⟨v9, rfl⟩, hI9, hG9⟩
            have hF9 : Fr SN w w9 := Fr.tr hFj8 hG9.1
            obtain ⟨th9, rm9, um9, sm9, em9⟩ := hG9.2 (nI tp) (nI qs) nq (nI un) ln nl sz at_ pl so vl wo fa fp lf lp ⟨_, _, _, _, emj8⟩
            show PW _ _ _ _ _ _ (59, [(0, .ref 467), (1, .int (nI a1N)), (2, .int (nI a2N)), (3, .int (nI a3N)), (4, .int (nI j8))], [.int (bi v9)], w9)
            refine P_if_eq 73 d_MD_leads_59 (by decide) (fun c10 => ?_) (fun c10 => ?_)
            · refine P_iinc (v := nI (j8 + 1)) d_MD_leads_73 (by decide) rfl (nI_add j8 1) rfl ?_
              refine P_goto 36 d_MD_leads_76 (by decide) ?_
              exact kkj8 (w9) ⟨hI9, hF9, ⟨_, _, _, _, em9⟩⟩
            · refine P_aload_n d_MD_leads_62 rfl ?_
              refine P_iload_n d_MD_leads_63 rfl ?_
              obtain ⟨f11, f11e⟩ := hI9.row (r := 479) (by decide) kc_479
              refine P_callV (M := M_MD_leads) (pc := 64) (as := [.int (nI a2N)]) (b := 467) d_MD_leads_64 co_MD_isAt ok_Model em9 L_MD_368 im_MD_isAt se_MD_isAt (s_MD_isAt a2N (by omega) em9 htp hqs hun ((hF9.2 _ (SN_f (by omega))).trans en) hnm e8 hnp e9 f11e) rfl ⟨by decide, by decide⟩ ⟨by decide, by decide⟩ (by exact le_b rfl) ?_ _ rfl
              rintro _ u ⟨⟨v12, rfl⟩, eu⟩
              subst u
              show PW _ _ _ _ _ _ (67, [(0, .ref 467), (1, .int (nI a1N)), (2, .int (nI a2N)), (3, .int (nI a3N)), (4, .int (nI j8))], [.int (bi v12)], w9)
              refine P_if_eq 73 d_MD_leads_67 (by decide) (fun c13 => ?_) (fun c13 => ?_)
              · refine P_iinc (v := nI (j8 + 1)) d_MD_leads_73 (by decide) rfl (nI_add j8 1) rfl ?_
                refine P_goto 36 d_MD_leads_76 (by decide) ?_
                exact kkj8 (w9) ⟨hI9, hF9, ⟨_, _, _, _, em9⟩⟩
              · refine P_iload d_MD_leads_70 rfl ?_
                exact P_iret d_MD_leads_72 rfl (le_b rfl) (le_b rfl) ⟨⟨_, rfl⟩, hI9, FrM.of hF9 ⟨_, _, _, _, em⟩ ⟨_, _, _, _, em9⟩⟩
        · refine P_iconst (v := (-1)) d_MD_leads_31 (by decide) ?_
          exact P_iret d_MD_leads_32 rfl (le_b rfl) (le_b rfl) ⟨⟨_, rfl⟩, hI1, FrM.of hF1 ⟨_, _, _, _, em⟩ ⟨_, _, _, _, s1⟩⟩
theorem s_MD_whole {G : pG} {w : pW} (hI : I w) (a1 : Int32) (a2 : Int32) : PM G M_MD_whole 5 0 0 [.ref 467, .int a1, .int a2] w (fun r w' => (∃ v, r = some (.int v)) ∧ I w' ∧ FrM w w') := by
  refine PM_of pn_MD_whole (le_b rfl) ?_
  show PW _ _ _ _ _ _ (0, [(0, .ref 467), (1, .int a1), (2, .int a2)], [], w)
  obtain ⟨tp, qs, un, nq, ln, nl, sz, at_, pl, so, vl, wo, fa, fp, lf, lp, th, rm, um, sm, htp, hqs, hun, em⟩ := hI.md
  obtain ⟨fn, nm, np, en, hnm, e8, hnp, e9⟩ := hI.now
  refine P_aload_n d_MD_whole_0 rfl ?_
  refine P_iconst (v := 0) d_MD_whole_1 (by decide) ?_
  refine P_putG (i := 0) d_MD_whole_2 ok_Model (by decide) rfl L_MD_74 em (fun _ => rfl) (fun _ => rfl) (fun w1 e1 s1 n1 z1 => ?_)
  have hI1 : I w1 := hI.setM (show w1 = (_, wu _ 467 (mO (nI tp) (nI qs) nq (nI un) ln nl sz at_ pl so vl wo fa fp lf lp 0 rm um sm)) from e1) htp hqs hun
  have hF1 : Fr SN w w1 := Fr.set Fr.rf e1 (SN_t (by omega))
  show PW _ _ _ _ _ _ (5, [(0, .ref 467), (1, .int a1), (2, .int a2)], [], w1)
  refine P_aload_n d_MD_whole_5 rfl ?_
  refine P_iload_n d_MD_whole_6 rfl ?_
  refine P_callV (M := M_MD_whole) (pc := 7) (as := [.int a1]) (b := 467) d_MD_whole_7 co_MD_isMap ok_Model s1 L_MD_241 im_MD_isMap se_MD_isMap (s_MD_isMap a1 s1 htp hqs hun ((hF1.2 _ (SN_f (by omega))).trans en) hnm e8 hnp e9) rfl ⟨by decide, by decide⟩ ⟨by decide, by decide⟩ (by exact le_b rfl) ?_ _ rfl
  rintro _ u ⟨rfl, eu⟩
  subst u
  show PW _ _ _ _ _ _ (10, [(0, .ref 467), (1, .int a1), (2, .int a2)], [.int (bi (inN nm a1))], w1)
  refine P_if_eq 23 d_MD_whole_10 (by decide) (fun c3 => ?_) (fun c3 => ?_)
  · refine P_iconst (v := (-1)) d_MD_whole_23 (by decide) ?_
    exact P_iret d_MD_whole_24 rfl (le_b rfl) (le_b rfl) ⟨⟨_, rfl⟩, hI1, FrM.of hF1 ⟨_, _, _, _, em⟩ ⟨_, _, _, _, s1⟩⟩
  · obtain ⟨a1N, ha1N, rfl⟩ := inN_of (bi_1 c3) (by omega)
    refine P_iload_n d_MD_whole_13 rfl ?_
    refine P_if_lt 23 d_MD_whole_14 (by decide) (fun c4 => ?_) (fun c4 => ?_)
    · refine P_iconst (v := (-1)) d_MD_whole_23 (by decide) ?_
      exact P_iret d_MD_whole_24 rfl (le_b rfl) (le_b rfl) ⟨⟨_, rfl⟩, hI1, FrM.of hF1 ⟨_, _, _, _, em⟩ ⟨_, _, _, _, s1⟩⟩
    · refine P_iload_n d_MD_whole_17 rfl ?_
      refine P_bipush (v := 9) d_MD_whole_18 (by decide) ?_
      refine P_icmp_le 25 d_MD_whole_20 (by decide) (fun c5 => ?_) (fun c5 => ?_)
      · obtain ⟨a2N, ha2N, rfl⟩ := nI_of_le (n := 9) c4 c5 rfl
        refine P_aload_n d_MD_whole_25 rfl ?_
        refine P_aload_n d_MD_whole_26 rfl ?_
        refine P_getf (i := 26) d_MD_whole_27 ok_Model (by decide) L_MD_44 s1 rfl ?_
        refine P_iload_n d_MD_whole_30 rfl ?_
        refine P_callV (M := M_MD_whole) (pc := 31) (as := [.ref 477, .int (nI a1N)]) (b := 467) d_MD_whole_31 co_MD_takes ok_Model s1 L_MD_274 im_MD_takes se_MD_takes (s_MD_takes hI1 (by decide) kc_477 (by omega) a1N (by omega)) rfl ⟨by decide, by decide⟩ ⟨by decide, by decide⟩ (by exact le_b rfl) ?_ _ rfl
        rintro _ w6 ⟨rfl, hI6, hG6⟩
        have hF6 : Fr SN w w6 := Fr.tr hF1 hG6.1
        obtain ⟨th6, rm6, um6, sm6, em6⟩ := hG6.2 (nI tp) (nI qs) nq (nI un) ln nl sz at_ pl so vl wo fa fp lf lp ⟨_, _, _, _, s1⟩
        show PW _ _ _ _ _ _ (34, [(0, .ref 467), (1, .int (nI a1N)), (2, .int (nI a2N))], [], w6)
        refine P_iconst (v := 0) d_MD_whole_34 (by decide) ?_
        refine P_istore_n d_MD_whole_35 (by decide) rfl ?_
        refine P_iload_n d_MD_whole_36 rfl ?_
        refine P_ineg d_MD_whole_37 ?_
        refine P_istore d_MD_whole_38 (by decide) rfl ?_
        rw [wh_0 a2N]
        refine PW_ind (σ := Int32 × pW) (2 * a2N + 1) (fun jj ss => I (ss.2) ∧ Fr SN w (ss.2) ∧ MS (nI tp) (nI qs) nq (nI un) ln nl sz at_ pl so vl wo fa fp lf lp ((ss.2).2 467)) (fun jj ss => (40, [(0, .ref 467), (1, .int (nI a1N)), (2, .int (nI a2N)), (3, .int ss.1), (4, .int (nI jj - nI a2N))], [], ss.2)) ?_ ?_ 0 (0, w6) (by omega) ⟨hI6, hF6, ⟨_, _, _, _, em6⟩⟩
        · rintro ⟨j7_3, uj7⟩ ⟨hIj7, hFj7, ⟨thj7, rmj7, umj7, smj7, emj7⟩⟩
          show PW _ _ _ _ _ _ (40, [(0, .ref 467), (1, .int (nI a1N)), (2, .int (nI a2N)), (3, .int j7_3), (4, .int (nI (2 * a2N + 1) - nI a2N))], [], uj7)
          refine P_iload d_MD_whole_40 rfl ?_
          refine P_iload_n d_MD_whole_42 rfl ?_
          refine P_icmp_gt 102 d_MD_whole_43 (by decide) (fun _ => ?_) (fun h => absurd (wh_T (by omega)) h)
          refine P_iload_n d_MD_whole_102 rfl ?_
          exact P_iret d_MD_whole_103 rfl (le_b rfl) (le_b rfl) ⟨⟨_, rfl⟩, hIj7, FrM.of hFj7 ⟨_, _, _, _, em⟩ ⟨_, _, _, _, emj7⟩⟩
        · rintro j7 ⟨j7_3, uj7⟩ hj7 ⟨hIj7, hFj7, ⟨thj7, rmj7, umj7, smj7, emj7⟩⟩ kkj7
          show PW _ _ _ _ _ _ (40, [(0, .ref 467), (1, .int (nI a1N)), (2, .int (nI a2N)), (3, .int j7_3), (4, .int (nI j7 - nI a2N))], [], uj7)
          refine P_iload d_MD_whole_40 rfl ?_
          refine P_iload_n d_MD_whole_42 rfl ?_
          refine P_icmp_gt 102 d_MD_whole_43 (by decide) (fun h => absurd h (wh_F (by omega) (by omega))) (fun _ => ?_)
          refine P_iload_n d_MD_whole_46 rfl ?_
          refine P_ineg d_MD_whole_47 ?_
          refine P_istore d_MD_whole_48 (by decide) rfl ?_
          rw [wh_0 a2N]
          refine PW_ind (σ := Int32 × pW) (2 * a2N + 1) (fun jj ss => I (ss.2) ∧ Fr SN w (ss.2) ∧ MS (nI tp) (nI qs) nq (nI un) ln nl sz at_ pl so vl wo fa fp lf lp ((ss.2).2 467)) (fun jj ss => (50, [(0, .ref 467), (1, .int (nI a1N)), (2, .int (nI a2N)), (3, .int ss.1), (4, .int (nI j7 - nI a2N)), (5, .int (nI jj - nI a2N))], [], ss.2)) ?_ ?_ 0 (j7_3, uj7) (by omega) ⟨hIj7, hFj7, ⟨_, _, _, _, emj7⟩⟩
          · rintro ⟨j8_3, uj8⟩ ⟨hIj8, hFj8, ⟨thj8, rmj8, umj8, smj8, emj8⟩⟩
            show PW _ _ _ _ _ _ (50, [(0, .ref 467), (1, .int (nI a1N)), (2, .int (nI a2N)), (3, .int j8_3), (4, .int (nI j7 - nI a2N)), (5, .int (nI (2 * a2N + 1) - nI a2N))], [], uj8)
            refine P_iload d_MD_whole_50 rfl ?_
            refine P_iload_n d_MD_whole_52 rfl ?_
            refine P_icmp_gt 96 d_MD_whole_53 (by decide) (fun _ => ?_) (fun h => absurd (wh_T (by omega)) h)
            refine P_iinc (v := (nI j7 - nI a2N) + Int32.ofInt 1) d_MD_whole_96 (by decide) rfl rfl rfl ?_
            show PW _ _ _ _ _ _ (99, [(0, .ref 467), (1, .int (nI a1N)), (2, .int (nI a2N)), (3, .int j8_3), (4, .int ((nI j7 - nI a2N) + Int32.ofInt 1)), (5, .int (nI (2 * a2N + 1) - nI a2N))], [], uj8)
            refine P_goto 40 d_MD_whole_99 (by decide) ?_
            show PW _ _ _ _ _ _ (40, [(0, .ref 467), (1, .int (nI a1N)), (2, .int (nI a2N)), (3, .int j8_3), (4, .int ((nI j7 - nI a2N) + Int32.ofInt 1)), (5, .int (nI (2 * a2N + 1) - nI a2N))], [], uj8)
            refine PW.drop (lv' := [(0, .ref 467), (1, .int (nI a1N)), (2, .int (nI a2N)), (3, .int j8_3), (4, .int ((nI j7 - nI a2N) + Int32.ofInt 1))]) (by simp) ?_
            rw [wh_s j7 a2N]
            exact kkj7 (j8_3, uj8) ⟨hIj8, hFj8, ⟨_, _, _, _, emj8⟩⟩
          · rintro j8 ⟨j8_3, uj8⟩ hj8 ⟨hIj8, hFj8, ⟨thj8, rmj8, umj8, smj8, emj8⟩⟩ kkj8
            show PW _ _ _ _ _ _ (50, [(0, .ref 467), (1, .int (nI a1N)), (2, .int (nI a2N)), (3, .int j8_3), (4, .int (nI j7 - nI a2N)), (5, .int (nI j8 - nI a2N))], [], uj8)
            refine P_iload d_MD_whole_50 rfl ?_
            refine P_iload_n d_MD_whole_52 rfl ?_
            refine P_icmp_gt 96 d_MD_whole_53 (by decide) (fun h => absurd h (wh_F (by omega) (by omega))) (fun _ => ?_)
            refine P_aload_n d_MD_whole_56 rfl ?_
            refine P_aload_n d_MD_whole_57 rfl ?_
            refine P_getf (i := 26) d_MD_whole_58 ok_Model (by decide) L_MD_44 emj8 rfl ?_
            refine P_iload d_MD_whole_61 rfl ?_
            refine P_i2l d_MD_whole_63 ?_
            refine P_iload d_MD_whole_64 rfl ?_
            refine P_i2l d_MD_whole_66 ?_
            refine P_lconst (v := 1) d_MD_whole_67 (by decide) ?_
            refine P_callV (M := M_MD_whole) (pc := 68) (as := [.ref 477, .long ((nI j7 - nI a2N).toInt64), .long ((nI j8 - nI a2N).toInt64), .long 1]) (b := 467) d_MD_whole_68 co_MD_images ok_Model emj8 L_MD_294 im_MD_images se_MD_images (s_MD_images hIj8 (by decide) kc_477 ((nI j7 - nI a2N).toInt64) ((nI j8 - nI a2N).toInt64) 1) rfl ⟨by decide, by decide⟩ ⟨by decide, by decide⟩ (by exact le_b rfl) ?_ _ rfl
            rintro _ w9 ⟨rfl, hI9, hG9⟩
            have hF9 : Fr SN w w9 := Fr.tr hFj8 hG9.1
            obtain ⟨th9, rm9, um9, sm9, em9⟩ := hG9.2 (nI tp) (nI qs) nq (nI un) ln nl sz at_ pl so vl wo fa fp lf lp ⟨_, _, _, _, emj8⟩
            show PW _ _ _ _ _ _ (71, [(0, .ref 467), (1, .int (nI a1N)), (2, .int (nI a2N)), (3, .int j8_3), (4, .int (nI j7 - nI a2N)), (5, .int (nI j8 - nI a2N))], [], w9)
            refine P_iload_n d_MD_whole_71 rfl ?_
            refine P_aload_n d_MD_whole_72 rfl ?_
            refine P_getf (i := 28) d_MD_whole_73 ok_Model (by decide) L_MD_50 em9 rfl ?_
            refine P_iconst (v := 2) d_MD_whole_76 (by decide) ?_
            obtain ⟨f10, f10e⟩ := hI9.row (r := 479) (by decide) kc_479
            refine P_lald (j := 2) d_MD_whole_77 f10e ⟨by decide, by decide⟩ (by decide) ?_
            refine P_lconst (v := 1) d_MD_whole_78 (by decide) ?_
            refine P_lcmp d_MD_whole_79 ?_
            refine P_if_ne 87 d_MD_whole_80 (by decide) (fun c11 => ?_) (fun c11 => ?_)
            · refine P_iconst (v := 0) d_MD_whole_87 (by decide) ?_
              refine P_iadd d_MD_whole_88 ?_
              refine P_istore_n d_MD_whole_89 (by decide) rfl ?_
              refine P_iinc (v := (nI j8 - nI a2N) + Int32.ofInt 1) d_MD_whole_90 (by decide) rfl rfl rfl ?_
              show PW _ _ _ _ _ _ (93, [(0, .ref 467), (1, .int (nI a1N)), (2, .int (nI a2N)), (3, .int (j8_3 + 0)), (4, .int (nI j7 - nI a2N)), (5, .int ((nI j8 - nI a2N) + Int32.ofInt 1))], [], w9)
              refine P_goto 50 d_MD_whole_93 (by decide) ?_
              show PW _ _ _ _ _ _ (50, [(0, .ref 467), (1, .int (nI a1N)), (2, .int (nI a2N)), (3, .int (j8_3 + 0)), (4, .int (nI j7 - nI a2N)), (5, .int ((nI j8 - nI a2N) + Int32.ofInt 1))], [], w9)
              rw [wh_s j8 a2N]
              exact kkj8 (j8_3 + 0, w9) ⟨hI9, hF9, ⟨_, _, _, _, em9⟩⟩
            · refine P_iconst (v := 1) d_MD_whole_83 (by decide) ?_
              refine P_goto 88 d_MD_whole_84 (by decide) ?_
              refine P_iadd d_MD_whole_88 ?_
              refine P_istore_n d_MD_whole_89 (by decide) rfl ?_
              refine P_iinc (v := (nI j8 - nI a2N) + Int32.ofInt 1) d_MD_whole_90 (by decide) rfl rfl rfl ?_
              show PW _ _ _ _ _ _ (93, [(0, .ref 467), (1, .int (nI a1N)), (2, .int (nI a2N)), (3, .int (j8_3 + 1)), (4, .int (nI j7 - nI a2N)), (5, .int ((nI j8 - nI a2N) + Int32.ofInt 1))], [], w9)
              refine P_goto 50 d_MD_whole_93 (by decide) ?_
              show PW _ _ _ _ _ _ (50, [(0, .ref 467), (1, .int (nI a1N)), (2, .int (nI a2N)), (3, .int (j8_3 + 1)), (4, .int (nI j7 - nI a2N)), (5, .int ((nI j8 - nI a2N) + Int32.ofInt 1))], [], w9)
              rw [wh_s j8 a2N]
              exact kkj8 (j8_3 + 1, w9) ⟨hI9, hF9, ⟨_, _, _, _, em9⟩⟩
      · refine P_iconst (v := (-1)) d_MD_whole_23 (by decide) ?_
        exact P_iret d_MD_whole_24 rfl (le_b rfl) (le_b rfl) ⟨⟨_, rfl⟩, hI1, FrM.of hF1 ⟨_, _, _, _, em⟩ ⟨_, _, _, _, s1⟩⟩
theorem s_MD_inside {G : pG} {w : pW} (hI : I w) (a1 : Int32) (a2 : Int32) : PM G M_MD_inside 3 0 0 [.ref 467, .int a1, .int a2] w (fun r w' => (∃ v, r = some (.int v)) ∧ I w' ∧ FrM w w') := by
  refine PM_of pn_MD_inside (le_b rfl) ?_
  show PW _ _ _ _ _ _ (0, [(0, .ref 467), (1, .int a1), (2, .int a2)], [], w)
  obtain ⟨tp, qs, un, nq, ln, nl, sz, at_, pl, so, vl, wo, fa, fp, lf, lp, th, rm, um, sm, htp, hqs, hun, em⟩ := hI.md
  obtain ⟨fn, nm, np, en, hnm, e8, hnp, e9⟩ := hI.now
  obtain ⟨f469, r469⟩ := hI.ints (r := 469) (by decide) kc_469
  refine P_aload_n d_MD_inside_0 rfl ?_
  refine P_iconst (v := 0) d_MD_inside_1 (by decide) ?_
  refine P_putG (i := 0) d_MD_inside_2 ok_Model (by decide) rfl L_MD_74 em (fun _ => rfl) (fun _ => rfl) (fun w1 e1 s1 n1 z1 => ?_)
  have hI1 : I w1 := hI.setM (show w1 = (_, wu _ 467 (mO (nI tp) (nI qs) nq (nI un) ln nl sz at_ pl so vl wo fa fp lf lp 0 rm um sm)) from e1) htp hqs hun
  have hF1 : Fr SN w w1 := Fr.set Fr.rf e1 (SN_t (by omega))
  show PW _ _ _ _ _ _ (5, [(0, .ref 467), (1, .int a1), (2, .int a2)], [], w1)
  refine P_aload_n d_MD_inside_5 rfl ?_
  refine P_iload_n d_MD_inside_6 rfl ?_
  refine P_callV (M := M_MD_inside) (pc := 7) (as := [.int a1]) (b := 467) d_MD_inside_7 co_MD_isQuad ok_Model s1 L_MD_238 im_MD_isQuad se_MD_isQuad (s_MD_isQuad a1 s1 htp hqs hun) rfl ⟨by decide, by decide⟩ ⟨by decide, by decide⟩ (by exact le_b rfl) ?_ _ rfl
  rintro _ u ⟨rfl, eu⟩
  subst u
  show PW _ _ _ _ _ _ (10, [(0, .ref 467), (1, .int a1), (2, .int a2)], [.int (bi (inN qs a1))], w1)
  refine P_if_eq 21 d_MD_inside_10 (by decide) (fun c3 => ?_) (fun c3 => ?_)
  · refine P_iconst (v := (-1)) d_MD_inside_21 (by decide) ?_
    exact P_iret d_MD_inside_22 rfl (le_b rfl) (le_b rfl) ⟨⟨_, rfl⟩, hI1, FrM.of hF1 ⟨_, _, _, _, em⟩ ⟨_, _, _, _, s1⟩⟩
  · obtain ⟨a1N, ha1N, rfl⟩ := inN_of (bi_1 c3) (by omega)
    refine P_aload_n d_MD_inside_13 rfl ?_
    refine P_iload_n d_MD_inside_14 rfl ?_
    refine P_callV (M := M_MD_inside) (pc := 15) (as := [.int a2]) (b := 467) d_MD_inside_15 co_MD_isPoint ok_Model s1 L_MD_247 im_MD_isPoint se_MD_isPoint (s_MD_isPoint a2 s1 htp hqs hun ((hF1.2 _ (SN_f (by omega))).trans en) hnm e8 hnp e9) rfl ⟨by decide, by decide⟩ ⟨by decide, by decide⟩ (by exact le_b rfl) ?_ _ rfl
    rintro _ u ⟨rfl, eu⟩
    subst u
    show PW _ _ _ _ _ _ (18, [(0, .ref 467), (1, .int (nI a1N)), (2, .int a2)], [.int (bi (inN np a2))], w1)
    refine P_if_ne 23 d_MD_inside_18 (by decide) (fun c5 => ?_) (fun c5 => ?_)
    · obtain ⟨a2N, ha2N, rfl⟩ := inN_of (bi_1 c5) (by omega)
      refine P_aload_n d_MD_inside_23 rfl ?_
      refine P_iload_n d_MD_inside_24 rfl ?_
      refine P_iconst (v := 0) d_MD_inside_25 (by decide) ?_
      refine P_callV (M := M_MD_inside) (pc := 26) (as := [.int (nI a2N), .int 0]) (b := 467) d_MD_inside_26 co_MD_pointOf ok_Model s1 L_MD_250 im_MD_pointOf se_MD_pointOf (s_MD_pointOf a2N (by omega) 0 (by decide) s1 htp hqs hun ((hF1.2 _ (SN_f (by omega))).trans en) hnm e8 hnp e9) rfl ⟨by decide, by decide⟩ ⟨by decide, by decide⟩ (by exact le_b rfl) ?_ _ rfl
      rintro _ u ⟨⟨v6, rfl⟩, eu⟩
      subst u
      show PW _ _ _ _ _ _ (29, [(0, .ref 467), (1, .int (nI a1N)), (2, .int (nI a2N))], [.long v6], w1)
      refine P_lstore_n d_MD_inside_29 (by decide) rfl ?_
      refine P_aload_n d_MD_inside_30 rfl ?_
      refine P_iload_n d_MD_inside_31 rfl ?_
      refine P_iconst (v := 1) d_MD_inside_32 (by decide) ?_
      refine P_callV (M := M_MD_inside) (pc := 33) (as := [.int (nI a2N), .int 1]) (b := 467) d_MD_inside_33 co_MD_pointOf ok_Model s1 L_MD_250 im_MD_pointOf se_MD_pointOf (s_MD_pointOf a2N (by omega) 1 (by decide) s1 htp hqs hun ((hF1.2 _ (SN_f (by omega))).trans en) hnm e8 hnp e9) rfl ⟨by decide, by decide⟩ ⟨by decide, by decide⟩ (by exact le_b rfl) ?_ _ rfl
      rintro _ u ⟨⟨v7, rfl⟩, eu⟩
      subst u
      show PW _ _ _ _ _ _ (36, [(0, .ref 467), (1, .int (nI a1N)), (2, .int (nI a2N)), (3, .long v6)], [.long v7], w1)
      refine P_lstore d_MD_inside_36 (by decide) rfl ?_
      refine P_aload_n d_MD_inside_38 rfl ?_
      refine P_iload_n d_MD_inside_39 rfl ?_
      refine P_iconst (v := 2) d_MD_inside_40 (by decide) ?_
      refine P_callV (M := M_MD_inside) (pc := 41) (as := [.int (nI a2N), .int 2]) (b := 467) d_MD_inside_41 co_MD_pointOf ok_Model s1 L_MD_250 im_MD_pointOf se_MD_pointOf (s_MD_pointOf a2N (by omega) 2 (by decide) s1 htp hqs hun ((hF1.2 _ (SN_f (by omega))).trans en) hnm e8 hnp e9) rfl ⟨by decide, by decide⟩ ⟨by decide, by decide⟩ (by exact le_b rfl) ?_ _ rfl
      rintro _ u ⟨⟨v8, rfl⟩, eu⟩
      subst u
      show PW _ _ _ _ _ _ (44, [(0, .ref 467), (1, .int (nI a1N)), (2, .int (nI a2N)), (3, .long v6), (5, .long v7)], [.long v8], w1)
      refine P_lstore d_MD_inside_44 (by decide) rfl ?_
      refine P_lload d_MD_inside_46 rfl ?_
      refine P_lconst (v := 0) d_MD_inside_48 (by decide) ?_
      refine P_lcmp d_MD_inside_49 ?_
      refine P_if_ne 56 d_MD_inside_50 (by decide) (fun c9 => ?_) (fun c9 => ?_)
      · refine P_aload_n d_MD_inside_56 rfl ?_
        refine P_iload_n d_MD_inside_57 rfl ?_
        refine P_callV (M := M_MD_inside) (pc := 58) (as := [.int (nI a1N)]) (b := 467) d_MD_inside_58 co_MD_dentOf ok_Model s1 L_MD_258 im_MD_dentOf se_MD_dentOf (s_MD_dentOf a1N (by omega) s1 htp hqs hun ((hF1.2 _ (SN_f (by omega))).trans r469)) rfl ⟨by decide, by decide⟩ ⟨by decide, by decide⟩ (by exact le_b rfl) ?_ _ rfl
        rintro _ u ⟨⟨v10, rfl⟩, eu⟩
        subst u
        show PW _ _ _ _ _ _ (61, [(0, .ref 467), (1, .int (nI a1N)), (2, .int (nI a2N)), (3, .long v6), (5, .long v7), (7, .long v8)], [.int v10], w1)
        refine P_bipush (v := (-2)) d_MD_inside_61 (by decide) ?_
        refine P_icmp_ne 93 d_MD_inside_63 (by decide) (fun c11 => ?_) (fun c11 => ?_)
        · refine P_iconst (v := 0) d_MD_inside_93 (by decide) ?_
          refine P_istore d_MD_inside_94 (by decide) rfl ?_
          refine P_iconst (v := 0) d_MD_inside_96 (by decide) ?_
          refine P_istore d_MD_inside_97 (by decide) rfl ?_
          refine PW_ind (σ := Int32 × pW) (4) (fun jj ss => I (ss.2) ∧ Fr SN w (ss.2) ∧ MS (nI tp) (nI qs) nq (nI un) ln nl sz at_ pl so vl wo fa fp lf lp ((ss.2).2 467)) (fun jj ss => (99, [(0, .ref 467), (1, .int (nI a1N)), (2, .int (nI a2N)), (3, .long v6), (5, .long v7), (7, .long v8), (9, .int ss.1), (10, .int (nI jj))], [], ss.2)) ?_ ?_ 0 (0, w1) (by omega) ⟨hI1, hF1, ⟨_, _, _, _, s1⟩⟩
          · rintro ⟨j12_9, uj12⟩ ⟨hIj12, hFj12, ⟨thj12, rmj12, umj12, smj12, emj12⟩⟩
            show PW _ _ _ _ _ _ (99, [(0, .ref 467), (1, .int (nI a1N)), (2, .int (nI a2N)), (3, .long v6), (5, .long v7), (7, .long v8), (9, .int j12_9), (10, .int 4)], [], uj12)
            refine P_iload d_MD_inside_99 rfl ?_
            refine P_iconst (v := 4) d_MD_inside_101 (by decide) ?_
            refine P_icmp_ge 254 d_MD_inside_102 (by decide) (fun _ => ?_) (fun h => absurd (by decide) h)
            refine P_iload d_MD_inside_254 rfl ?_
            refine P_if_eq 263 d_MD_inside_256 (by decide) (fun c13 => ?_) (fun c13 => ?_)
            · refine P_iconst (v := 0) d_MD_inside_263 (by decide) ?_
              exact P_iret d_MD_inside_264 rfl (le_b rfl) (le_b rfl) ⟨⟨_, rfl⟩, hIj12, FrM.of hFj12 ⟨_, _, _, _, em⟩ ⟨_, _, _, _, emj12⟩⟩
            · refine P_iconst (v := 1) d_MD_inside_259 (by decide) ?_
              refine P_goto 264 d_MD_inside_260 (by decide) ?_
              exact P_iret d_MD_inside_264 rfl (le_b rfl) (le_b rfl) ⟨⟨_, rfl⟩, hIj12, FrM.of hFj12 ⟨_, _, _, _, em⟩ ⟨_, _, _, _, emj12⟩⟩
          · rintro j12 ⟨j12_9, uj12⟩ hj12 ⟨hIj12, hFj12, ⟨thj12, rmj12, umj12, smj12, emj12⟩⟩ kkj12
            show PW _ _ _ _ _ _ (99, [(0, .ref 467), (1, .int (nI a1N)), (2, .int (nI a2N)), (3, .long v6), (5, .long v7), (7, .long v8), (9, .int j12_9), (10, .int (nI j12))], [], uj12)
            refine P_iload d_MD_inside_99 rfl ?_
            refine P_iconst (v := 4) d_MD_inside_101 (by decide) ?_
            refine P_icmp_ge 254 d_MD_inside_102 (by decide) (fun h => absurd h (nI_geF (a := j12) (b := 4) (by omega) (by omega))) (fun _ => ?_)
            refine P_aload_n d_MD_inside_105 rfl ?_
            refine P_iload_n d_MD_inside_106 rfl ?_
            refine P_iload d_MD_inside_107 rfl ?_
            refine P_lload_n d_MD_inside_109 rfl ?_
            refine P_lload d_MD_inside_110 rfl ?_
            refine P_lload d_MD_inside_112 rfl ?_
            refine P_callV (M := M_MD_inside) (pc := 114) (as := [.int (nI a1N), .int (nI j12), .long v6, .long v7, .long v8]) (b := 467) d_MD_inside_114 co_MD_isOnSide ok_Model emj12 L_MD_385 im_MD_isOnSide se_MD_isOnSide (s_MD_isOnSide a1N (by omega) j12 (by omega) v6 v7 v8 emj12 htp hqs hun ((hFj12.2 _ (SN_f (by omega))).trans r469)) rfl ⟨by decide, by decide⟩ ⟨by decide, by decide⟩ (by exact le_b rfl) ?_ _ rfl
            rintro _ u ⟨⟨v14, rfl⟩, eu⟩
            subst u
            show PW _ _ _ _ _ _ (117, [(0, .ref 467), (1, .int (nI a1N)), (2, .int (nI a2N)), (3, .long v6), (5, .long v7), (7, .long v8), (9, .int j12_9), (10, .int (nI j12))], [.int (bi v14)], uj12)
            refine P_if_eq 122 d_MD_inside_117 (by decide) (fun c15 => ?_) (fun c15 => ?_)
            · refine P_aload_n d_MD_inside_122 rfl ?_
              refine P_getf (i := 3) d_MD_inside_123 ok_Model (by decide) L_MD_15 emj12 rfl ?_
              refine P_bipush (v := 8) d_MD_inside_126 (by decide) ?_
              refine P_iload_n d_MD_inside_128 rfl ?_
              refine P_imulN (a := 8) (b := a1N) d_MD_inside_129 ?_
              show PW _ _ _ _ _ _ (130, [(0, .ref 467), (1, .int (nI a1N)), (2, .int (nI a2N)), (3, .long v6), (5, .long v7), (7, .long v8), (9, .int j12_9), (10, .int (nI j12))], [.int (nI (8 * a1N)), .ref 469], uj12)
              refine P_iconst (v := 2) d_MD_inside_130 (by decide) ?_
              refine P_iload d_MD_inside_131 rfl ?_
              refine P_imulN (a := 2) (b := j12) d_MD_inside_133 ?_
              show PW _ _ _ _ _ _ (134, [(0, .ref 467), (1, .int (nI a1N)), (2, .int (nI a2N)), (3, .long v6), (5, .long v7), (7, .long v8), (9, .int j12_9), (10, .int (nI j12))], [.int (nI (2 * j12)), .int (nI (8 * a1N)), .ref 469], uj12)
              refine P_iaddN (a := (8 * a1N)) (b := (2 * j12)) d_MD_inside_134 ?_
              show PW _ _ _ _ _ _ (135, [(0, .ref 467), (1, .int (nI a1N)), (2, .int (nI a2N)), (3, .long v6), (5, .long v7), (7, .long v8), (9, .int j12_9), (10, .int (nI j12))], [.int (nI ((8 * a1N) + (2 * j12))), .ref 469], uj12)
              refine P_iconst (v := 1) d_MD_inside_135 (by decide) ?_
              refine P_iaddN (a := ((8 * a1N) + (2 * j12))) (b := 1) d_MD_inside_136 ?_
              show PW _ _ _ _ _ _ (137, [(0, .ref 467), (1, .int (nI a1N)), (2, .int (nI a2N)), (3, .long v6), (5, .long v7), (7, .long v8), (9, .int j12_9), (10, .int (nI j12))], [.int (nI (((8 * a1N) + (2 * j12)) + 1)), .ref 469], uj12)
              refine P_iald (j := ((8 * a1N) + (2 * j12)) + 1) d_MD_inside_137 ((hFj12.2 _ (SN_f (by omega))).trans r469) (ix_nI (by omega)) (by omega) ?_
              refine P_i2l d_MD_inside_138 ?_
              refine P_lload d_MD_inside_139 rfl ?_
              refine P_lmul d_MD_inside_141 ?_
              refine P_lload d_MD_inside_142 rfl ?_
              refine P_lcmp d_MD_inside_144 ?_
              refine P_if_gt 152 d_MD_inside_145 (by decide) (fun c16 => ?_) (fun c16 => ?_)
              · refine P_iconst (v := 0) d_MD_inside_152 (by decide) ?_
                refine P_istore d_MD_inside_153 (by decide) rfl ?_
                refine P_aload_n d_MD_inside_155 rfl ?_
                refine P_getf (i := 3) d_MD_inside_156 ok_Model (by decide) L_MD_15 emj12 rfl ?_
                refine P_bipush (v := 8) d_MD_inside_159 (by decide) ?_
                refine P_iload_n d_MD_inside_161 rfl ?_
                refine P_imulN (a := 8) (b := a1N) d_MD_inside_162 ?_
                show PW _ _ _ _ _ _ (163, [(0, .ref 467), (1, .int (nI a1N)), (2, .int (nI a2N)), (3, .long v6), (5, .long v7), (7, .long v8), (9, .int j12_9), (10, .int (nI j12)), (11, .int 0)], [.int (nI (8 * a1N)), .ref 469], uj12)
                refine P_iconst (v := 2) d_MD_inside_163 (by decide) ?_
                refine P_iload d_MD_inside_164 rfl ?_
                refine P_iconst (v := 1) d_MD_inside_166 (by decide) ?_
                refine P_iaddN (a := j12) (b := 1) d_MD_inside_167 ?_
                show PW _ _ _ _ _ _ (168, [(0, .ref 467), (1, .int (nI a1N)), (2, .int (nI a2N)), (3, .long v6), (5, .long v7), (7, .long v8), (9, .int j12_9), (10, .int (nI j12)), (11, .int 0)], [.int (nI (j12 + 1)), .int 2, .int (nI (8 * a1N)), .ref 469], uj12)
                refine P_iconst (v := 4) d_MD_inside_168 (by decide) ?_
                refine P_iremN (a := (j12 + 1)) (b := 4) d_MD_inside_169 (by omega) (by omega) (by omega) ?_
                show PW _ _ _ _ _ _ (170, [(0, .ref 467), (1, .int (nI a1N)), (2, .int (nI a2N)), (3, .long v6), (5, .long v7), (7, .long v8), (9, .int j12_9), (10, .int (nI j12)), (11, .int 0)], [.int (nI ((j12 + 1) % 4)), .int 2, .int (nI (8 * a1N)), .ref 469], uj12)
                refine P_imulN (a := 2) (b := ((j12 + 1) % 4)) d_MD_inside_170 ?_
                show PW _ _ _ _ _ _ (171, [(0, .ref 467), (1, .int (nI a1N)), (2, .int (nI a2N)), (3, .long v6), (5, .long v7), (7, .long v8), (9, .int j12_9), (10, .int (nI j12)), (11, .int 0)], [.int (nI (2 * ((j12 + 1) % 4))), .int (nI (8 * a1N)), .ref 469], uj12)
                refine P_iaddN (a := (8 * a1N)) (b := (2 * ((j12 + 1) % 4))) d_MD_inside_171 ?_
                show PW _ _ _ _ _ _ (172, [(0, .ref 467), (1, .int (nI a1N)), (2, .int (nI a2N)), (3, .long v6), (5, .long v7), (7, .long v8), (9, .int j12_9), (10, .int (nI j12)), (11, .int 0)], [.int (nI ((8 * a1N) + (2 * ((j12 + 1) % 4)))), .ref 469], uj12)
                refine P_iconst (v := 1) d_MD_inside_172 (by decide) ?_
                refine P_iaddN (a := ((8 * a1N) + (2 * ((j12 + 1) % 4)))) (b := 1) d_MD_inside_173 ?_
                show PW _ _ _ _ _ _ (174, [(0, .ref 467), (1, .int (nI a1N)), (2, .int (nI a2N)), (3, .long v6), (5, .long v7), (7, .long v8), (9, .int j12_9), (10, .int (nI j12)), (11, .int 0)], [.int (nI (((8 * a1N) + (2 * ((j12 + 1) % 4))) + 1)), .ref 469], uj12)
                refine P_iald (j := ((8 * a1N) + (2 * ((j12 + 1) % 4))) + 1) d_MD_inside_174 ((hFj12.2 _ (SN_f (by omega))).trans r469) (ix_nI (by omega)) (by omega) ?_
                refine P_i2l d_MD_inside_175 ?_
                refine P_lload d_MD_inside_176 rfl ?_
                refine P_lmul d_MD_inside_178 ?_
                generalize ((f469 (((8 * a1N) + (2 * ((j12 + 1) % 4))) + 1)).toInt64) * v8 = zz17
                show PW _ _ _ _ _ _ (179, [(0, .ref 467), (1, .int (nI a1N)), (2, .int (nI a2N)), (3, .long v6), (5, .long v7), (7, .long v8), (9, .int j12_9), (10, .int (nI j12)), (11, .int 0)], [.long zz17], uj12)
                refine P_lload d_MD_inside_179 rfl ?_
                refine P_lcmp d_MD_inside_181 ?_
                refine P_if_gt 189 d_MD_inside_182 (by decide) (fun c18 => ?_) (fun c18 => ?_)
                · refine P_iconst (v := 0) d_MD_inside_189 (by decide) ?_
                  refine P_istore d_MD_inside_190 (by decide) rfl ?_
                  refine P_iload d_MD_inside_192 rfl ?_
                  refine P_iload d_MD_inside_194 rfl ?_
                  refine P_icmp_ne 202 d_MD_inside_196 (by decide) (fun h => absurd (by decide) h) (fun _ => ?_)
                  refine P_goto 248 d_MD_inside_199 (by decide) ?_
                  refine P_iinc (v := nI (j12 + 1)) d_MD_inside_248 (by decide) rfl (nI_add j12 1) rfl ?_
                  refine P_goto 99 d_MD_inside_251 (by decide) ?_
                  show PW _ _ _ _ _ _ (99, [(0, .ref 467), (1, .int (nI a1N)), (2, .int (nI a2N)), (3, .long v6), (5, .long v7), (7, .long v8), (9, .int j12_9), (10, .int (nI (j12 + 1))), (11, .int 0), (12, .int 0)], [], uj12)
                  refine PW.drop (lv' := [(0, .ref 467), (1, .int (nI a1N)), (2, .int (nI a2N)), (3, .long v6), (5, .long v7), (7, .long v8), (9, .int j12_9), (10, .int (nI (j12 + 1)))]) (by simp) ?_
                  exact kkj12 (j12_9, uj12) ⟨hIj12, hFj12, ⟨_, _, _, _, emj12⟩⟩
                · refine P_iconst (v := 1) d_MD_inside_185 (by decide) ?_
                  refine P_goto 190 d_MD_inside_186 (by decide) ?_
                  refine P_istore d_MD_inside_190 (by decide) rfl ?_
                  refine P_iload d_MD_inside_192 rfl ?_
                  refine P_iload d_MD_inside_194 rfl ?_
                  refine P_icmp_ne 202 d_MD_inside_196 (by decide) (fun _ => ?_) (fun h => absurd h (by decide))
                  refine P_aload_n d_MD_inside_202 rfl ?_
                  refine P_iload_n d_MD_inside_203 rfl ?_
                  refine P_iload d_MD_inside_204 rfl ?_
                  refine P_lload_n d_MD_inside_206 rfl ?_
                  refine P_lload d_MD_inside_207 rfl ?_
                  refine P_lload d_MD_inside_209 rfl ?_
                  refine P_callV (M := M_MD_inside) (pc := 211) (as := [.int (nI a1N), .int (nI j12), .long v6, .long v7, .long v8]) (b := 467) d_MD_inside_211 co_MD_sideOfSide ok_Model emj12 L_MD_377 im_MD_sideOfSide se_MD_sideOfSide (s_MD_sideOfSide a1N (by omega) j12 (by omega) v6 v7 v8 emj12 htp hqs hun ((hFj12.2 _ (SN_f (by omega))).trans r469)) rfl ⟨by decide, by decide⟩ ⟨by decide, by decide⟩ (by exact le_b rfl) ?_ _ rfl
                  rintro _ u ⟨⟨v19, rfl⟩, eu⟩
                  subst u
                  show PW _ _ _ _ _ _ (214, [(0, .ref 467), (1, .int (nI a1N)), (2, .int (nI a2N)), (3, .long v6), (5, .long v7), (7, .long v8), (9, .int j12_9), (10, .int (nI j12)), (11, .int 0), (12, .int 1)], [.int v19], uj12)
                  refine P_if_le 221 d_MD_inside_214 (by decide) (fun c20 => ?_) (fun c20 => ?_)
                  · refine P_iconst (v := 0) d_MD_inside_221 (by decide) ?_
                    refine P_istore d_MD_inside_222 (by decide) rfl ?_
                    refine P_iload d_MD_inside_224 rfl ?_
                    refine P_iload d_MD_inside_226 rfl ?_
                    refine P_iload d_MD_inside_228 rfl ?_
                    refine P_icmp_ne 237 d_MD_inside_230 (by decide) (fun h => absurd (by decide) h) (fun _ => ?_)
                    refine P_iconst (v := 1) d_MD_inside_233 (by decide) ?_
                    refine P_goto 238 d_MD_inside_234 (by decide) ?_
                    refine P_icmp_eq 245 d_MD_inside_238 (by decide) (fun c21 => ?_) (fun c21 => ?_)
                    · refine P_iconst (v := 0) d_MD_inside_245 (by decide) ?_
                      refine P_istore d_MD_inside_246 (by decide) rfl ?_
                      refine P_iinc (v := nI (j12 + 1)) d_MD_inside_248 (by decide) rfl (nI_add j12 1) rfl ?_
                      refine P_goto 99 d_MD_inside_251 (by decide) ?_
                      show PW _ _ _ _ _ _ (99, [(0, .ref 467), (1, .int (nI a1N)), (2, .int (nI a2N)), (3, .long v6), (5, .long v7), (7, .long v8), (9, .int 0), (10, .int (nI (j12 + 1))), (11, .int 0), (12, .int 1), (13, .int 0)], [], uj12)
                      refine PW.drop (lv' := [(0, .ref 467), (1, .int (nI a1N)), (2, .int (nI a2N)), (3, .long v6), (5, .long v7), (7, .long v8), (9, .int 0), (10, .int (nI (j12 + 1)))]) (by simp) ?_
                      exact kkj12 (0, uj12) ⟨hIj12, hFj12, ⟨_, _, _, _, emj12⟩⟩
                    · refine P_iconst (v := 1) d_MD_inside_241 (by decide) ?_
                      refine P_goto 246 d_MD_inside_242 (by decide) ?_
                      refine P_istore d_MD_inside_246 (by decide) rfl ?_
                      refine P_iinc (v := nI (j12 + 1)) d_MD_inside_248 (by decide) rfl (nI_add j12 1) rfl ?_
                      refine P_goto 99 d_MD_inside_251 (by decide) ?_
                      show PW _ _ _ _ _ _ (99, [(0, .ref 467), (1, .int (nI a1N)), (2, .int (nI a2N)), (3, .long v6), (5, .long v7), (7, .long v8), (9, .int 1), (10, .int (nI (j12 + 1))), (11, .int 0), (12, .int 1), (13, .int 0)], [], uj12)
                      refine PW.drop (lv' := [(0, .ref 467), (1, .int (nI a1N)), (2, .int (nI a2N)), (3, .long v6), (5, .long v7), (7, .long v8), (9, .int 1), (10, .int (nI (j12 + 1)))]) (by simp) ?_
                      exact kkj12 (1, uj12) ⟨hIj12, hFj12, ⟨_, _, _, _, emj12⟩⟩
                  · refine P_iconst (v := 1) d_MD_inside_217 (by decide) ?_
                    refine P_goto 222 d_MD_inside_218 (by decide) ?_
                    refine P_istore d_MD_inside_222 (by decide) rfl ?_
                    refine P_iload d_MD_inside_224 rfl ?_
                    refine P_iload d_MD_inside_226 rfl ?_
                    refine P_iload d_MD_inside_228 rfl ?_
                    refine P_icmp_ne 237 d_MD_inside_230 (by decide) (fun _ => ?_) (fun h => absurd h (by decide))
                    refine P_iconst (v := 0) d_MD_inside_237 (by decide) ?_
                    refine P_icmp_eq 245 d_MD_inside_238 (by decide) (fun c22 => ?_) (fun c22 => ?_)
                    · refine P_iconst (v := 0) d_MD_inside_245 (by decide) ?_
                      refine P_istore d_MD_inside_246 (by decide) rfl ?_
                      refine P_iinc (v := nI (j12 + 1)) d_MD_inside_248 (by decide) rfl (nI_add j12 1) rfl ?_
                      refine P_goto 99 d_MD_inside_251 (by decide) ?_
                      show PW _ _ _ _ _ _ (99, [(0, .ref 467), (1, .int (nI a1N)), (2, .int (nI a2N)), (3, .long v6), (5, .long v7), (7, .long v8), (9, .int 0), (10, .int (nI (j12 + 1))), (11, .int 0), (12, .int 1), (13, .int 1)], [], uj12)
                      refine PW.drop (lv' := [(0, .ref 467), (1, .int (nI a1N)), (2, .int (nI a2N)), (3, .long v6), (5, .long v7), (7, .long v8), (9, .int 0), (10, .int (nI (j12 + 1)))]) (by simp) ?_
                      exact kkj12 (0, uj12) ⟨hIj12, hFj12, ⟨_, _, _, _, emj12⟩⟩
                    · refine P_iconst (v := 1) d_MD_inside_241 (by decide) ?_
                      refine P_goto 246 d_MD_inside_242 (by decide) ?_
                      refine P_istore d_MD_inside_246 (by decide) rfl ?_
                      refine P_iinc (v := nI (j12 + 1)) d_MD_inside_248 (by decide) rfl (nI_add j12 1) rfl ?_
                      refine P_goto 99 d_MD_inside_251 (by decide) ?_
                      show PW _ _ _ _ _ _ (99, [(0, .ref 467), (1, .int (nI a1N)), (2, .int (nI a2N)), (3, .long v6), (5, .long v7), (7, .long v8), (9, .int 1), (10, .int (nI (j12 + 1))), (11, .int 0), (12, .int 1), (13, .int 1)], [], uj12)
                      refine PW.drop (lv' := [(0, .ref 467), (1, .int (nI a1N)), (2, .int (nI a2N)), (3, .long v6), (5, .long v7), (7, .long v8), (9, .int 1), (10, .int (nI (j12 + 1)))]) (by simp) ?_
                      exact kkj12 (1, uj12) ⟨hIj12, hFj12, ⟨_, _, _, _, emj12⟩⟩
              · refine P_iconst (v := 1) d_MD_inside_148 (by decide) ?_
                refine P_goto 153 d_MD_inside_149 (by decide) ?_
                refine P_istore d_MD_inside_153 (by decide) rfl ?_
                refine P_aload_n d_MD_inside_155 rfl ?_
                refine P_getf (i := 3) d_MD_inside_156 ok_Model (by decide) L_MD_15 emj12 rfl ?_
                refine P_bipush (v := 8) d_MD_inside_159 (by decide) ?_
                refine P_iload_n d_MD_inside_161 rfl ?_
                refine P_imulN (a := 8) (b := a1N) d_MD_inside_162 ?_
                show PW _ _ _ _ _ _ (163, [(0, .ref 467), (1, .int (nI a1N)), (2, .int (nI a2N)), (3, .long v6), (5, .long v7), (7, .long v8), (9, .int j12_9), (10, .int (nI j12)), (11, .int 1)], [.int (nI (8 * a1N)), .ref 469], uj12)
                refine P_iconst (v := 2) d_MD_inside_163 (by decide) ?_
                refine P_iload d_MD_inside_164 rfl ?_
                refine P_iconst (v := 1) d_MD_inside_166 (by decide) ?_
                refine P_iaddN (a := j12) (b := 1) d_MD_inside_167 ?_
                show PW _ _ _ _ _ _ (168, [(0, .ref 467), (1, .int (nI a1N)), (2, .int (nI a2N)), (3, .long v6), (5, .long v7), (7, .long v8), (9, .int j12_9), (10, .int (nI j12)), (11, .int 1)], [.int (nI (j12 + 1)), .int 2, .int (nI (8 * a1N)), .ref 469], uj12)
                refine P_iconst (v := 4) d_MD_inside_168 (by decide) ?_
                refine P_iremN (a := (j12 + 1)) (b := 4) d_MD_inside_169 (by omega) (by omega) (by omega) ?_
                show PW _ _ _ _ _ _ (170, [(0, .ref 467), (1, .int (nI a1N)), (2, .int (nI a2N)), (3, .long v6), (5, .long v7), (7, .long v8), (9, .int j12_9), (10, .int (nI j12)), (11, .int 1)], [.int (nI ((j12 + 1) % 4)), .int 2, .int (nI (8 * a1N)), .ref 469], uj12)
                refine P_imulN (a := 2) (b := ((j12 + 1) % 4)) d_MD_inside_170 ?_
                show PW _ _ _ _ _ _ (171, [(0, .ref 467), (1, .int (nI a1N)), (2, .int (nI a2N)), (3, .long v6), (5, .long v7), (7, .long v8), (9, .int j12_9), (10, .int (nI j12)), (11, .int 1)], [.int (nI (2 * ((j12 + 1) % 4))), .int (nI (8 * a1N)), .ref 469], uj12)
                refine P_iaddN (a := (8 * a1N)) (b := (2 * ((j12 + 1) % 4))) d_MD_inside_171 ?_
                show PW _ _ _ _ _ _ (172, [(0, .ref 467), (1, .int (nI a1N)), (2, .int (nI a2N)), (3, .long v6), (5, .long v7), (7, .long v8), (9, .int j12_9), (10, .int (nI j12)), (11, .int 1)], [.int (nI ((8 * a1N) + (2 * ((j12 + 1) % 4)))), .ref 469], uj12)
                refine P_iconst (v := 1) d_MD_inside_172 (by decide) ?_
                refine P_iaddN (a := ((8 * a1N) + (2 * ((j12 + 1) % 4)))) (b := 1) d_MD_inside_173 ?_
                show PW _ _ _ _ _ _ (174, [(0, .ref 467), (1, .int (nI a1N)), (2, .int (nI a2N)), (3, .long v6), (5, .long v7), (7, .long v8), (9, .int j12_9), (10, .int (nI j12)), (11, .int 1)], [.int (nI (((8 * a1N) + (2 * ((j12 + 1) % 4))) + 1)), .ref 469], uj12)
                refine P_iald (j := ((8 * a1N) + (2 * ((j12 + 1) % 4))) + 1) d_MD_inside_174 ((hFj12.2 _ (SN_f (by omega))).trans r469) (ix_nI (by omega)) (by omega) ?_
                refine P_i2l d_MD_inside_175 ?_
                refine P_lload d_MD_inside_176 rfl ?_
                refine P_lmul d_MD_inside_178 ?_
                generalize ((f469 (((8 * a1N) + (2 * ((j12 + 1) % 4))) + 1)).toInt64) * v8 = zz23
                show PW _ _ _ _ _ _ (179, [(0, .ref 467), (1, .int (nI a1N)), (2, .int (nI a2N)), (3, .long v6), (5, .long v7), (7, .long v8), (9, .int j12_9), (10, .int (nI j12)), (11, .int 1)], [.long zz23], uj12)
                refine P_lload d_MD_inside_179 rfl ?_
                refine P_lcmp d_MD_inside_181 ?_
                refine P_if_gt 189 d_MD_inside_182 (by decide) (fun c24 => ?_) (fun c24 => ?_)
                · refine P_iconst (v := 0) d_MD_inside_189 (by decide) ?_
                  refine P_istore d_MD_inside_190 (by decide) rfl ?_
                  refine P_iload d_MD_inside_192 rfl ?_
                  refine P_iload d_MD_inside_194 rfl ?_
                  refine P_icmp_ne 202 d_MD_inside_196 (by decide) (fun _ => ?_) (fun h => absurd h (by decide))
                  refine P_aload_n d_MD_inside_202 rfl ?_
                  refine P_iload_n d_MD_inside_203 rfl ?_
                  refine P_iload d_MD_inside_204 rfl ?_
                  refine P_lload_n d_MD_inside_206 rfl ?_
                  refine P_lload d_MD_inside_207 rfl ?_
                  refine P_lload d_MD_inside_209 rfl ?_
                  refine P_callV (M := M_MD_inside) (pc := 211) (as := [.int (nI a1N), .int (nI j12), .long v6, .long v7, .long v8]) (b := 467) d_MD_inside_211 co_MD_sideOfSide ok_Model emj12 L_MD_377 im_MD_sideOfSide se_MD_sideOfSide (s_MD_sideOfSide a1N (by omega) j12 (by omega) v6 v7 v8 emj12 htp hqs hun ((hFj12.2 _ (SN_f (by omega))).trans r469)) rfl ⟨by decide, by decide⟩ ⟨by decide, by decide⟩ (by exact le_b rfl) ?_ _ rfl
                  rintro _ u ⟨⟨v25, rfl⟩, eu⟩
                  subst u
                  show PW _ _ _ _ _ _ (214, [(0, .ref 467), (1, .int (nI a1N)), (2, .int (nI a2N)), (3, .long v6), (5, .long v7), (7, .long v8), (9, .int j12_9), (10, .int (nI j12)), (11, .int 1), (12, .int 0)], [.int v25], uj12)
                  refine P_if_le 221 d_MD_inside_214 (by decide) (fun c26 => ?_) (fun c26 => ?_)
                  · refine P_iconst (v := 0) d_MD_inside_221 (by decide) ?_
                    refine P_istore d_MD_inside_222 (by decide) rfl ?_
                    refine P_iload d_MD_inside_224 rfl ?_
                    refine P_iload d_MD_inside_226 rfl ?_
                    refine P_iload d_MD_inside_228 rfl ?_
                    refine P_icmp_ne 237 d_MD_inside_230 (by decide) (fun _ => ?_) (fun h => absurd h (by decide))
                    refine P_iconst (v := 0) d_MD_inside_237 (by decide) ?_
                    refine P_icmp_eq 245 d_MD_inside_238 (by decide) (fun c27 => ?_) (fun c27 => ?_)
                    · refine P_iconst (v := 0) d_MD_inside_245 (by decide) ?_
                      refine P_istore d_MD_inside_246 (by decide) rfl ?_
                      refine P_iinc (v := nI (j12 + 1)) d_MD_inside_248 (by decide) rfl (nI_add j12 1) rfl ?_
                      refine P_goto 99 d_MD_inside_251 (by decide) ?_
                      show PW _ _ _ _ _ _ (99, [(0, .ref 467), (1, .int (nI a1N)), (2, .int (nI a2N)), (3, .long v6), (5, .long v7), (7, .long v8), (9, .int 0), (10, .int (nI (j12 + 1))), (11, .int 1), (12, .int 0), (13, .int 0)], [], uj12)
                      refine PW.drop (lv' := [(0, .ref 467), (1, .int (nI a1N)), (2, .int (nI a2N)), (3, .long v6), (5, .long v7), (7, .long v8), (9, .int 0), (10, .int (nI (j12 + 1)))]) (by simp) ?_
                      exact kkj12 (0, uj12) ⟨hIj12, hFj12, ⟨_, _, _, _, emj12⟩⟩
                    · refine P_iconst (v := 1) d_MD_inside_241 (by decide) ?_
                      refine P_goto 246 d_MD_inside_242 (by decide) ?_
                      refine P_istore d_MD_inside_246 (by decide) rfl ?_
                      refine P_iinc (v := nI (j12 + 1)) d_MD_inside_248 (by decide) rfl (nI_add j12 1) rfl ?_
                      refine P_goto 99 d_MD_inside_251 (by decide) ?_
                      show PW _ _ _ _ _ _ (99, [(0, .ref 467), (1, .int (nI a1N)), (2, .int (nI a2N)), (3, .long v6), (5, .long v7), (7, .long v8), (9, .int 1), (10, .int (nI (j12 + 1))), (11, .int 1), (12, .int 0), (13, .int 0)], [], uj12)
                      refine PW.drop (lv' := [(0, .ref 467), (1, .int (nI a1N)), (2, .int (nI a2N)), (3, .long v6), (5, .long v7), (7, .long v8), (9, .int 1), (10, .int (nI (j12 + 1)))]) (by simp) ?_
                      exact kkj12 (1, uj12) ⟨hIj12, hFj12, ⟨_, _, _, _, emj12⟩⟩
                  · refine P_iconst (v := 1) d_MD_inside_217 (by decide) ?_
                    refine P_goto 222 d_MD_inside_218 (by decide) ?_
                    refine P_istore d_MD_inside_222 (by decide) rfl ?_
                    refine P_iload d_MD_inside_224 rfl ?_
                    refine P_iload d_MD_inside_226 rfl ?_
                    refine P_iload d_MD_inside_228 rfl ?_
                    refine P_icmp_ne 237 d_MD_inside_230 (by decide) (fun h => absurd (by decide) h) (fun _ => ?_)
                    refine P_iconst (v := 1) d_MD_inside_233 (by decide) ?_
                    refine P_goto 238 d_MD_inside_234 (by decide) ?_
                    refine P_icmp_eq 245 d_MD_inside_238 (by decide) (fun c28 => ?_) (fun c28 => ?_)
                    · refine P_iconst (v := 0) d_MD_inside_245 (by decide) ?_
                      refine P_istore d_MD_inside_246 (by decide) rfl ?_
                      refine P_iinc (v := nI (j12 + 1)) d_MD_inside_248 (by decide) rfl (nI_add j12 1) rfl ?_
                      refine P_goto 99 d_MD_inside_251 (by decide) ?_
                      show PW _ _ _ _ _ _ (99, [(0, .ref 467), (1, .int (nI a1N)), (2, .int (nI a2N)), (3, .long v6), (5, .long v7), (7, .long v8), (9, .int 0), (10, .int (nI (j12 + 1))), (11, .int 1), (12, .int 0), (13, .int 1)], [], uj12)
                      refine PW.drop (lv' := [(0, .ref 467), (1, .int (nI a1N)), (2, .int (nI a2N)), (3, .long v6), (5, .long v7), (7, .long v8), (9, .int 0), (10, .int (nI (j12 + 1)))]) (by simp) ?_
                      exact kkj12 (0, uj12) ⟨hIj12, hFj12, ⟨_, _, _, _, emj12⟩⟩
                    · refine P_iconst (v := 1) d_MD_inside_241 (by decide) ?_
                      refine P_goto 246 d_MD_inside_242 (by decide) ?_
                      refine P_istore d_MD_inside_246 (by decide) rfl ?_
                      refine P_iinc (v := nI (j12 + 1)) d_MD_inside_248 (by decide) rfl (nI_add j12 1) rfl ?_
                      refine P_goto 99 d_MD_inside_251 (by decide) ?_
                      show PW _ _ _ _ _ _ (99, [(0, .ref 467), (1, .int (nI a1N)), (2, .int (nI a2N)), (3, .long v6), (5, .long v7), (7, .long v8), (9, .int 1), (10, .int (nI (j12 + 1))), (11, .int 1), (12, .int 0), (13, .int 1)], [], uj12)
                      refine PW.drop (lv' := [(0, .ref 467), (1, .int (nI a1N)), (2, .int (nI a2N)), (3, .long v6), (5, .long v7), (7, .long v8), (9, .int 1), (10, .int (nI (j12 + 1)))]) (by simp) ?_
                      exact kkj12 (1, uj12) ⟨hIj12, hFj12, ⟨_, _, _, _, emj12⟩⟩
                · refine P_iconst (v := 1) d_MD_inside_185 (by decide) ?_
                  refine P_goto 190 d_MD_inside_186 (by decide) ?_
                  refine P_istore d_MD_inside_190 (by decide) rfl ?_
                  refine P_iload d_MD_inside_192 rfl ?_
                  refine P_iload d_MD_inside_194 rfl ?_
                  refine P_icmp_ne 202 d_MD_inside_196 (by decide) (fun h => absurd (by decide) h) (fun _ => ?_)
                  refine P_goto 248 d_MD_inside_199 (by decide) ?_
                  refine P_iinc (v := nI (j12 + 1)) d_MD_inside_248 (by decide) rfl (nI_add j12 1) rfl ?_
                  refine P_goto 99 d_MD_inside_251 (by decide) ?_
                  show PW _ _ _ _ _ _ (99, [(0, .ref 467), (1, .int (nI a1N)), (2, .int (nI a2N)), (3, .long v6), (5, .long v7), (7, .long v8), (9, .int j12_9), (10, .int (nI (j12 + 1))), (11, .int 1), (12, .int 1)], [], uj12)
                  refine PW.drop (lv' := [(0, .ref 467), (1, .int (nI a1N)), (2, .int (nI a2N)), (3, .long v6), (5, .long v7), (7, .long v8), (9, .int j12_9), (10, .int (nI (j12 + 1)))]) (by simp) ?_
                  exact kkj12 (j12_9, uj12) ⟨hIj12, hFj12, ⟨_, _, _, _, emj12⟩⟩
            · refine P_iconst (v := 2) d_MD_inside_120 (by decide) ?_
              exact P_iret d_MD_inside_121 rfl (le_b rfl) (le_b rfl) ⟨⟨_, rfl⟩, hIj12, FrM.of hFj12 ⟨_, _, _, _, em⟩ ⟨_, _, _, _, emj12⟩⟩
        · refine P_aload_n d_MD_inside_66 rfl ?_
          refine P_iload_n d_MD_inside_67 rfl ?_
          refine P_iconst (v := 0) d_MD_inside_68 (by decide) ?_
          refine P_iconst (v := 1) d_MD_inside_69 (by decide) ?_
          refine P_iconst (v := 2) d_MD_inside_70 (by decide) ?_
          refine P_iconst (v := 3) d_MD_inside_71 (by decide) ?_
          refine P_callV (M := M_MD_inside) (pc := 72) (as := [.int (nI a1N), .int 0, .int 1, .int 2, .int 3]) (b := 467) d_MD_inside_72 co_MD_doCross ok_Model s1 L_MD_261 im_MD_doCross se_MD_doCross (s_MD_doCross a1N (by omega) 0 (by decide) 1 (by decide) 2 (by decide) 3 (by decide) s1 htp hqs hun ((hF1.2 _ (SN_f (by omega))).trans r469)) rfl ⟨by decide, by decide⟩ ⟨by decide, by decide⟩ (by exact le_b rfl) ?_ _ rfl
          rintro _ u ⟨⟨v29, rfl⟩, eu⟩
          subst u
          show PW _ _ _ _ _ _ (75, [(0, .ref 467), (1, .int (nI a1N)), (2, .int (nI a2N)), (3, .long v6), (5, .long v7), (7, .long v8)], [.int (bi v29)], w1)
          refine P_if_ne 90 d_MD_inside_75 (by decide) (fun c30 => ?_) (fun c30 => ?_)
          · refine P_bipush (v := (-3)) d_MD_inside_90 (by decide) ?_
            exact P_iret d_MD_inside_92 rfl (le_b rfl) (le_b rfl) ⟨⟨_, rfl⟩, hI1, FrM.of hF1 ⟨_, _, _, _, em⟩ ⟨_, _, _, _, s1⟩⟩
          · refine P_aload_n d_MD_inside_78 rfl ?_
            refine P_iload_n d_MD_inside_79 rfl ?_
            refine P_iconst (v := 1) d_MD_inside_80 (by decide) ?_
            refine P_iconst (v := 2) d_MD_inside_81 (by decide) ?_
            refine P_iconst (v := 3) d_MD_inside_82 (by decide) ?_
            refine P_iconst (v := 0) d_MD_inside_83 (by decide) ?_
            refine P_callV (M := M_MD_inside) (pc := 84) (as := [.int (nI a1N), .int 1, .int 2, .int 3, .int 0]) (b := 467) d_MD_inside_84 co_MD_doCross ok_Model s1 L_MD_261 im_MD_doCross se_MD_doCross (s_MD_doCross a1N (by omega) 1 (by decide) 2 (by decide) 3 (by decide) 0 (by decide) s1 htp hqs hun ((hF1.2 _ (SN_f (by omega))).trans r469)) rfl ⟨by decide, by decide⟩ ⟨by decide, by decide⟩ (by exact le_b rfl) ?_ _ rfl
            rintro _ u ⟨⟨v31, rfl⟩, eu⟩
            subst u
            show PW _ _ _ _ _ _ (87, [(0, .ref 467), (1, .int (nI a1N)), (2, .int (nI a2N)), (3, .long v6), (5, .long v7), (7, .long v8)], [.int (bi v31)], w1)
            refine P_if_eq 93 d_MD_inside_87 (by decide) (fun c32 => ?_) (fun c32 => ?_)
            · refine P_iconst (v := 0) d_MD_inside_93 (by decide) ?_
              refine P_istore d_MD_inside_94 (by decide) rfl ?_
              refine P_iconst (v := 0) d_MD_inside_96 (by decide) ?_
              refine P_istore d_MD_inside_97 (by decide) rfl ?_
              refine PW_ind (σ := Int32 × pW) (4) (fun jj ss => I (ss.2) ∧ Fr SN w (ss.2) ∧ MS (nI tp) (nI qs) nq (nI un) ln nl sz at_ pl so vl wo fa fp lf lp ((ss.2).2 467)) (fun jj ss => (99, [(0, .ref 467), (1, .int (nI a1N)), (2, .int (nI a2N)), (3, .long v6), (5, .long v7), (7, .long v8), (9, .int ss.1), (10, .int (nI jj))], [], ss.2)) ?_ ?_ 0 (0, w1) (by omega) ⟨hI1, hF1, ⟨_, _, _, _, s1⟩⟩
              · rintro ⟨j33_9, uj33⟩ ⟨hIj33, hFj33, ⟨thj33, rmj33, umj33, smj33, emj33⟩⟩
                show PW _ _ _ _ _ _ (99, [(0, .ref 467), (1, .int (nI a1N)), (2, .int (nI a2N)), (3, .long v6), (5, .long v7), (7, .long v8), (9, .int j33_9), (10, .int 4)], [], uj33)
                refine P_iload d_MD_inside_99 rfl ?_
                refine P_iconst (v := 4) d_MD_inside_101 (by decide) ?_
                refine P_icmp_ge 254 d_MD_inside_102 (by decide) (fun _ => ?_) (fun h => absurd (by decide) h)
                refine P_iload d_MD_inside_254 rfl ?_
                refine P_if_eq 263 d_MD_inside_256 (by decide) (fun c34 => ?_) (fun c34 => ?_)
                · refine P_iconst (v := 0) d_MD_inside_263 (by decide) ?_
                  exact P_iret d_MD_inside_264 rfl (le_b rfl) (le_b rfl) ⟨⟨_, rfl⟩, hIj33, FrM.of hFj33 ⟨_, _, _, _, em⟩ ⟨_, _, _, _, emj33⟩⟩
                · refine P_iconst (v := 1) d_MD_inside_259 (by decide) ?_
                  refine P_goto 264 d_MD_inside_260 (by decide) ?_
                  exact P_iret d_MD_inside_264 rfl (le_b rfl) (le_b rfl) ⟨⟨_, rfl⟩, hIj33, FrM.of hFj33 ⟨_, _, _, _, em⟩ ⟨_, _, _, _, emj33⟩⟩
              · rintro j33 ⟨j33_9, uj33⟩ hj33 ⟨hIj33, hFj33, ⟨thj33, rmj33, umj33, smj33, emj33⟩⟩ kkj33
                show PW _ _ _ _ _ _ (99, [(0, .ref 467), (1, .int (nI a1N)), (2, .int (nI a2N)), (3, .long v6), (5, .long v7), (7, .long v8), (9, .int j33_9), (10, .int (nI j33))], [], uj33)
                refine P_iload d_MD_inside_99 rfl ?_
                refine P_iconst (v := 4) d_MD_inside_101 (by decide) ?_
                refine P_icmp_ge 254 d_MD_inside_102 (by decide) (fun h => absurd h (nI_geF (a := j33) (b := 4) (by omega) (by omega))) (fun _ => ?_)
                refine P_aload_n d_MD_inside_105 rfl ?_
                refine P_iload_n d_MD_inside_106 rfl ?_
                refine P_iload d_MD_inside_107 rfl ?_
                refine P_lload_n d_MD_inside_109 rfl ?_
                refine P_lload d_MD_inside_110 rfl ?_
                refine P_lload d_MD_inside_112 rfl ?_
                refine P_callV (M := M_MD_inside) (pc := 114) (as := [.int (nI a1N), .int (nI j33), .long v6, .long v7, .long v8]) (b := 467) d_MD_inside_114 co_MD_isOnSide ok_Model emj33 L_MD_385 im_MD_isOnSide se_MD_isOnSide (s_MD_isOnSide a1N (by omega) j33 (by omega) v6 v7 v8 emj33 htp hqs hun ((hFj33.2 _ (SN_f (by omega))).trans r469)) rfl ⟨by decide, by decide⟩ ⟨by decide, by decide⟩ (by exact le_b rfl) ?_ _ rfl
                rintro _ u ⟨⟨v35, rfl⟩, eu⟩
                subst u
                show PW _ _ _ _ _ _ (117, [(0, .ref 467), (1, .int (nI a1N)), (2, .int (nI a2N)), (3, .long v6), (5, .long v7), (7, .long v8), (9, .int j33_9), (10, .int (nI j33))], [.int (bi v35)], uj33)
                refine P_if_eq 122 d_MD_inside_117 (by decide) (fun c36 => ?_) (fun c36 => ?_)
                · refine P_aload_n d_MD_inside_122 rfl ?_
                  refine P_getf (i := 3) d_MD_inside_123 ok_Model (by decide) L_MD_15 emj33 rfl ?_
                  refine P_bipush (v := 8) d_MD_inside_126 (by decide) ?_
                  refine P_iload_n d_MD_inside_128 rfl ?_
                  refine P_imulN (a := 8) (b := a1N) d_MD_inside_129 ?_
                  show PW _ _ _ _ _ _ (130, [(0, .ref 467), (1, .int (nI a1N)), (2, .int (nI a2N)), (3, .long v6), (5, .long v7), (7, .long v8), (9, .int j33_9), (10, .int (nI j33))], [.int (nI (8 * a1N)), .ref 469], uj33)
                  refine P_iconst (v := 2) d_MD_inside_130 (by decide) ?_
                  refine P_iload d_MD_inside_131 rfl ?_
                  refine P_imulN (a := 2) (b := j33) d_MD_inside_133 ?_
                  show PW _ _ _ _ _ _ (134, [(0, .ref 467), (1, .int (nI a1N)), (2, .int (nI a2N)), (3, .long v6), (5, .long v7), (7, .long v8), (9, .int j33_9), (10, .int (nI j33))], [.int (nI (2 * j33)), .int (nI (8 * a1N)), .ref 469], uj33)
                  refine P_iaddN (a := (8 * a1N)) (b := (2 * j33)) d_MD_inside_134 ?_
                  show PW _ _ _ _ _ _ (135, [(0, .ref 467), (1, .int (nI a1N)), (2, .int (nI a2N)), (3, .long v6), (5, .long v7), (7, .long v8), (9, .int j33_9), (10, .int (nI j33))], [.int (nI ((8 * a1N) + (2 * j33))), .ref 469], uj33)
                  refine P_iconst (v := 1) d_MD_inside_135 (by decide) ?_
                  refine P_iaddN (a := ((8 * a1N) + (2 * j33))) (b := 1) d_MD_inside_136 ?_
                  show PW _ _ _ _ _ _ (137, [(0, .ref 467), (1, .int (nI a1N)), (2, .int (nI a2N)), (3, .long v6), (5, .long v7), (7, .long v8), (9, .int j33_9), (10, .int (nI j33))], [.int (nI (((8 * a1N) + (2 * j33)) + 1)), .ref 469], uj33)
                  refine P_iald (j := ((8 * a1N) + (2 * j33)) + 1) d_MD_inside_137 ((hFj33.2 _ (SN_f (by omega))).trans r469) (ix_nI (by omega)) (by omega) ?_
                  refine P_i2l d_MD_inside_138 ?_
                  refine P_lload d_MD_inside_139 rfl ?_
                  refine P_lmul d_MD_inside_141 ?_
                  refine P_lload d_MD_inside_142 rfl ?_
                  refine P_lcmp d_MD_inside_144 ?_
                  refine P_if_gt 152 d_MD_inside_145 (by decide) (fun c37 => ?_) (fun c37 => ?_)
                  · refine P_iconst (v := 0) d_MD_inside_152 (by decide) ?_
                    refine P_istore d_MD_inside_153 (by decide) rfl ?_
                    refine P_aload_n d_MD_inside_155 rfl ?_
                    refine P_getf (i := 3) d_MD_inside_156 ok_Model (by decide) L_MD_15 emj33 rfl ?_
                    refine P_bipush (v := 8) d_MD_inside_159 (by decide) ?_
                    refine P_iload_n d_MD_inside_161 rfl ?_
                    refine P_imulN (a := 8) (b := a1N) d_MD_inside_162 ?_
                    show PW _ _ _ _ _ _ (163, [(0, .ref 467), (1, .int (nI a1N)), (2, .int (nI a2N)), (3, .long v6), (5, .long v7), (7, .long v8), (9, .int j33_9), (10, .int (nI j33)), (11, .int 0)], [.int (nI (8 * a1N)), .ref 469], uj33)
                    refine P_iconst (v := 2) d_MD_inside_163 (by decide) ?_
                    refine P_iload d_MD_inside_164 rfl ?_
                    refine P_iconst (v := 1) d_MD_inside_166 (by decide) ?_
                    refine P_iaddN (a := j33) (b := 1) d_MD_inside_167 ?_
                    show PW _ _ _ _ _ _ (168, [(0, .ref 467), (1, .int (nI a1N)), (2, .int (nI a2N)), (3, .long v6), (5, .long v7), (7, .long v8), (9, .int j33_9), (10, .int (nI j33)), (11, .int 0)], [.int (nI (j33 + 1)), .int 2, .int (nI (8 * a1N)), .ref 469], uj33)
                    refine P_iconst (v := 4) d_MD_inside_168 (by decide) ?_
                    refine P_iremN (a := (j33 + 1)) (b := 4) d_MD_inside_169 (by omega) (by omega) (by omega) ?_
                    show PW _ _ _ _ _ _ (170, [(0, .ref 467), (1, .int (nI a1N)), (2, .int (nI a2N)), (3, .long v6), (5, .long v7), (7, .long v8), (9, .int j33_9), (10, .int (nI j33)), (11, .int 0)], [.int (nI ((j33 + 1) % 4)), .int 2, .int (nI (8 * a1N)), .ref 469], uj33)
                    refine P_imulN (a := 2) (b := ((j33 + 1) % 4)) d_MD_inside_170 ?_
                    show PW _ _ _ _ _ _ (171, [(0, .ref 467), (1, .int (nI a1N)), (2, .int (nI a2N)), (3, .long v6), (5, .long v7), (7, .long v8), (9, .int j33_9), (10, .int (nI j33)), (11, .int 0)], [.int (nI (2 * ((j33 + 1) % 4))), .int (nI (8 * a1N)), .ref 469], uj33)
                    refine P_iaddN (a := (8 * a1N)) (b := (2 * ((j33 + 1) % 4))) d_MD_inside_171 ?_
                    show PW _ _ _ _ _ _ (172, [(0, .ref 467), (1, .int (nI a1N)), (2, .int (nI a2N)), (3, .long v6), (5, .long v7), (7, .long v8), (9, .int j33_9), (10, .int (nI j33)), (11, .int 0)], [.int (nI ((8 * a1N) + (2 * ((j33 + 1) % 4)))), .ref 469], uj33)
                    refine P_iconst (v := 1) d_MD_inside_172 (by decide) ?_
                    refine P_iaddN (a := ((8 * a1N) + (2 * ((j33 + 1) % 4)))) (b := 1) d_MD_inside_173 ?_
                    show PW _ _ _ _ _ _ (174, [(0, .ref 467), (1, .int (nI a1N)), (2, .int (nI a2N)), (3, .long v6), (5, .long v7), (7, .long v8), (9, .int j33_9), (10, .int (nI j33)), (11, .int 0)], [.int (nI (((8 * a1N) + (2 * ((j33 + 1) % 4))) + 1)), .ref 469], uj33)
                    refine P_iald (j := ((8 * a1N) + (2 * ((j33 + 1) % 4))) + 1) d_MD_inside_174 ((hFj33.2 _ (SN_f (by omega))).trans r469) (ix_nI (by omega)) (by omega) ?_
                    refine P_i2l d_MD_inside_175 ?_
                    refine P_lload d_MD_inside_176 rfl ?_
                    refine P_lmul d_MD_inside_178 ?_
                    generalize ((f469 (((8 * a1N) + (2 * ((j33 + 1) % 4))) + 1)).toInt64) * v8 = zz38
                    show PW _ _ _ _ _ _ (179, [(0, .ref 467), (1, .int (nI a1N)), (2, .int (nI a2N)), (3, .long v6), (5, .long v7), (7, .long v8), (9, .int j33_9), (10, .int (nI j33)), (11, .int 0)], [.long zz38], uj33)
                    refine P_lload d_MD_inside_179 rfl ?_
                    refine P_lcmp d_MD_inside_181 ?_
                    refine P_if_gt 189 d_MD_inside_182 (by decide) (fun c39 => ?_) (fun c39 => ?_)
                    · refine P_iconst (v := 0) d_MD_inside_189 (by decide) ?_
                      refine P_istore d_MD_inside_190 (by decide) rfl ?_
                      refine P_iload d_MD_inside_192 rfl ?_
                      refine P_iload d_MD_inside_194 rfl ?_
                      refine P_icmp_ne 202 d_MD_inside_196 (by decide) (fun h => absurd (by decide) h) (fun _ => ?_)
                      refine P_goto 248 d_MD_inside_199 (by decide) ?_
                      refine P_iinc (v := nI (j33 + 1)) d_MD_inside_248 (by decide) rfl (nI_add j33 1) rfl ?_
                      refine P_goto 99 d_MD_inside_251 (by decide) ?_
                      show PW _ _ _ _ _ _ (99, [(0, .ref 467), (1, .int (nI a1N)), (2, .int (nI a2N)), (3, .long v6), (5, .long v7), (7, .long v8), (9, .int j33_9), (10, .int (nI (j33 + 1))), (11, .int 0), (12, .int 0)], [], uj33)
                      refine PW.drop (lv' := [(0, .ref 467), (1, .int (nI a1N)), (2, .int (nI a2N)), (3, .long v6), (5, .long v7), (7, .long v8), (9, .int j33_9), (10, .int (nI (j33 + 1)))]) (by simp) ?_
                      exact kkj33 (j33_9, uj33) ⟨hIj33, hFj33, ⟨_, _, _, _, emj33⟩⟩
                    · refine P_iconst (v := 1) d_MD_inside_185 (by decide) ?_
                      refine P_goto 190 d_MD_inside_186 (by decide) ?_
                      refine P_istore d_MD_inside_190 (by decide) rfl ?_
                      refine P_iload d_MD_inside_192 rfl ?_
                      refine P_iload d_MD_inside_194 rfl ?_
                      refine P_icmp_ne 202 d_MD_inside_196 (by decide) (fun _ => ?_) (fun h => absurd h (by decide))
                      refine P_aload_n d_MD_inside_202 rfl ?_
                      refine P_iload_n d_MD_inside_203 rfl ?_
                      refine P_iload d_MD_inside_204 rfl ?_
                      refine P_lload_n d_MD_inside_206 rfl ?_
                      refine P_lload d_MD_inside_207 rfl ?_
                      refine P_lload d_MD_inside_209 rfl ?_
                      refine P_callV (M := M_MD_inside) (pc := 211) (as := [.int (nI a1N), .int (nI j33), .long v6, .long v7, .long v8]) (b := 467) d_MD_inside_211 co_MD_sideOfSide ok_Model emj33 L_MD_377 im_MD_sideOfSide se_MD_sideOfSide (s_MD_sideOfSide a1N (by omega) j33 (by omega) v6 v7 v8 emj33 htp hqs hun ((hFj33.2 _ (SN_f (by omega))).trans r469)) rfl ⟨by decide, by decide⟩ ⟨by decide, by decide⟩ (by exact le_b rfl) ?_ _ rfl
                      rintro _ u ⟨⟨v40, rfl⟩, eu⟩
                      subst u
                      show PW _ _ _ _ _ _ (214, [(0, .ref 467), (1, .int (nI a1N)), (2, .int (nI a2N)), (3, .long v6), (5, .long v7), (7, .long v8), (9, .int j33_9), (10, .int (nI j33)), (11, .int 0), (12, .int 1)], [.int v40], uj33)
                      refine P_if_le 221 d_MD_inside_214 (by decide) (fun c41 => ?_) (fun c41 => ?_)
                      · refine P_iconst (v := 0) d_MD_inside_221 (by decide) ?_
                        refine P_istore d_MD_inside_222 (by decide) rfl ?_
                        refine P_iload d_MD_inside_224 rfl ?_
                        refine P_iload d_MD_inside_226 rfl ?_
                        refine P_iload d_MD_inside_228 rfl ?_
                        refine P_icmp_ne 237 d_MD_inside_230 (by decide) (fun h => absurd (by decide) h) (fun _ => ?_)
                        refine P_iconst (v := 1) d_MD_inside_233 (by decide) ?_
                        refine P_goto 238 d_MD_inside_234 (by decide) ?_
                        refine P_icmp_eq 245 d_MD_inside_238 (by decide) (fun c42 => ?_) (fun c42 => ?_)
                        · refine P_iconst (v := 0) d_MD_inside_245 (by decide) ?_
                          refine P_istore d_MD_inside_246 (by decide) rfl ?_
                          refine P_iinc (v := nI (j33 + 1)) d_MD_inside_248 (by decide) rfl (nI_add j33 1) rfl ?_
                          refine P_goto 99 d_MD_inside_251 (by decide) ?_
                          show PW _ _ _ _ _ _ (99, [(0, .ref 467), (1, .int (nI a1N)), (2, .int (nI a2N)), (3, .long v6), (5, .long v7), (7, .long v8), (9, .int 0), (10, .int (nI (j33 + 1))), (11, .int 0), (12, .int 1), (13, .int 0)], [], uj33)
                          refine PW.drop (lv' := [(0, .ref 467), (1, .int (nI a1N)), (2, .int (nI a2N)), (3, .long v6), (5, .long v7), (7, .long v8), (9, .int 0), (10, .int (nI (j33 + 1)))]) (by simp) ?_
                          exact kkj33 (0, uj33) ⟨hIj33, hFj33, ⟨_, _, _, _, emj33⟩⟩
                        · refine P_iconst (v := 1) d_MD_inside_241 (by decide) ?_
                          refine P_goto 246 d_MD_inside_242 (by decide) ?_
                          refine P_istore d_MD_inside_246 (by decide) rfl ?_
                          refine P_iinc (v := nI (j33 + 1)) d_MD_inside_248 (by decide) rfl (nI_add j33 1) rfl ?_
                          refine P_goto 99 d_MD_inside_251 (by decide) ?_
                          show PW _ _ _ _ _ _ (99, [(0, .ref 467), (1, .int (nI a1N)), (2, .int (nI a2N)), (3, .long v6), (5, .long v7), (7, .long v8), (9, .int 1), (10, .int (nI (j33 + 1))), (11, .int 0), (12, .int 1), (13, .int 0)], [], uj33)
                          refine PW.drop (lv' := [(0, .ref 467), (1, .int (nI a1N)), (2, .int (nI a2N)), (3, .long v6), (5, .long v7), (7, .long v8), (9, .int 1), (10, .int (nI (j33 + 1)))]) (by simp) ?_
                          exact kkj33 (1, uj33) ⟨hIj33, hFj33, ⟨_, _, _, _, emj33⟩⟩
                      · refine P_iconst (v := 1) d_MD_inside_217 (by decide) ?_
                        refine P_goto 222 d_MD_inside_218 (by decide) ?_
                        refine P_istore d_MD_inside_222 (by decide) rfl ?_
                        refine P_iload d_MD_inside_224 rfl ?_
                        refine P_iload d_MD_inside_226 rfl ?_
                        refine P_iload d_MD_inside_228 rfl ?_
                        refine P_icmp_ne 237 d_MD_inside_230 (by decide) (fun _ => ?_) (fun h => absurd h (by decide))
                        refine P_iconst (v := 0) d_MD_inside_237 (by decide) ?_
                        refine P_icmp_eq 245 d_MD_inside_238 (by decide) (fun c43 => ?_) (fun c43 => ?_)
                        · refine P_iconst (v := 0) d_MD_inside_245 (by decide) ?_
                          refine P_istore d_MD_inside_246 (by decide) rfl ?_
                          refine P_iinc (v := nI (j33 + 1)) d_MD_inside_248 (by decide) rfl (nI_add j33 1) rfl ?_
                          refine P_goto 99 d_MD_inside_251 (by decide) ?_
                          show PW _ _ _ _ _ _ (99, [(0, .ref 467), (1, .int (nI a1N)), (2, .int (nI a2N)), (3, .long v6), (5, .long v7), (7, .long v8), (9, .int 0), (10, .int (nI (j33 + 1))), (11, .int 0), (12, .int 1), (13, .int 1)], [], uj33)
                          refine PW.drop (lv' := [(0, .ref 467), (1, .int (nI a1N)), (2, .int (nI a2N)), (3, .long v6), (5, .long v7), (7, .long v8), (9, .int 0), (10, .int (nI (j33 + 1)))]) (by simp) ?_
                          exact kkj33 (0, uj33) ⟨hIj33, hFj33, ⟨_, _, _, _, emj33⟩⟩
                        · refine P_iconst (v := 1) d_MD_inside_241 (by decide) ?_
                          refine P_goto 246 d_MD_inside_242 (by decide) ?_
                          refine P_istore d_MD_inside_246 (by decide) rfl ?_
                          refine P_iinc (v := nI (j33 + 1)) d_MD_inside_248 (by decide) rfl (nI_add j33 1) rfl ?_
                          refine P_goto 99 d_MD_inside_251 (by decide) ?_
                          show PW _ _ _ _ _ _ (99, [(0, .ref 467), (1, .int (nI a1N)), (2, .int (nI a2N)), (3, .long v6), (5, .long v7), (7, .long v8), (9, .int 1), (10, .int (nI (j33 + 1))), (11, .int 0), (12, .int 1), (13, .int 1)], [], uj33)
                          refine PW.drop (lv' := [(0, .ref 467), (1, .int (nI a1N)), (2, .int (nI a2N)), (3, .long v6), (5, .long v7), (7, .long v8), (9, .int 1), (10, .int (nI (j33 + 1)))]) (by simp) ?_
                          exact kkj33 (1, uj33) ⟨hIj33, hFj33, ⟨_, _, _, _, emj33⟩⟩
                  · refine P_iconst (v := 1) d_MD_inside_148 (by decide) ?_
                    refine P_goto 153 d_MD_inside_149 (by decide) ?_
                    refine P_istore d_MD_inside_153 (by decide) rfl ?_
                    refine P_aload_n d_MD_inside_155 rfl ?_
                    refine P_getf (i := 3) d_MD_inside_156 ok_Model (by decide) L_MD_15 emj33 rfl ?_
                    refine P_bipush (v := 8) d_MD_inside_159 (by decide) ?_
                    refine P_iload_n d_MD_inside_161 rfl ?_
                    refine P_imulN (a := 8) (b := a1N) d_MD_inside_162 ?_
                    show PW _ _ _ _ _ _ (163, [(0, .ref 467), (1, .int (nI a1N)), (2, .int (nI a2N)), (3, .long v6), (5, .long v7), (7, .long v8), (9, .int j33_9), (10, .int (nI j33)), (11, .int 1)], [.int (nI (8 * a1N)), .ref 469], uj33)
                    refine P_iconst (v := 2) d_MD_inside_163 (by decide) ?_
                    refine P_iload d_MD_inside_164 rfl ?_
                    refine P_iconst (v := 1) d_MD_inside_166 (by decide) ?_
                    refine P_iaddN (a := j33) (b := 1) d_MD_inside_167 ?_
                    show PW _ _ _ _ _ _ (168, [(0, .ref 467), (1, .int (nI a1N)), (2, .int (nI a2N)), (3, .long v6), (5, .long v7), (7, .long v8), (9, .int j33_9), (10, .int (nI j33)), (11, .int 1)], [.int (nI (j33 + 1)), .int 2, .int (nI (8 * a1N)), .ref 469], uj33)
                    refine P_iconst (v := 4) d_MD_inside_168 (by decide) ?_
                    refine P_iremN (a := (j33 + 1)) (b := 4) d_MD_inside_169 (by omega) (by omega) (by omega) ?_
                    show PW _ _ _ _ _ _ (170, [(0, .ref 467), (1, .int (nI a1N)), (2, .int (nI a2N)), (3, .long v6), (5, .long v7), (7, .long v8), (9, .int j33_9), (10, .int (nI j33)), (11, .int 1)], [.int (nI ((j33 + 1) % 4)), .int 2, .int (nI (8 * a1N)), .ref 469], uj33)
                    refine P_imulN (a := 2) (b := ((j33 + 1) % 4)) d_MD_inside_170 ?_
                    show PW _ _ _ _ _ _ (171, [(0, .ref 467), (1, .int (nI a1N)), (2, .int (nI a2N)), (3, .long v6), (5, .long v7), (7, .long v8), (9, .int j33_9), (10, .int (nI j33)), (11, .int 1)], [.int (nI (2 * ((j33 + 1) % 4))), .int (nI (8 * a1N)), .ref 469], uj33)
                    refine P_iaddN (a := (8 * a1N)) (b := (2 * ((j33 + 1) % 4))) d_MD_inside_171 ?_
                    show PW _ _ _ _ _ _ (172, [(0, .ref 467), (1, .int (nI a1N)), (2, .int (nI a2N)), (3, .long v6), (5, .long v7), (7, .long v8), (9, .int j33_9), (10, .int (nI j33)), (11, .int 1)], [.int (nI ((8 * a1N) + (2 * ((j33 + 1) % 4)))), .ref 469], uj33)
                    refine P_iconst (v := 1) d_MD_inside_172 (by decide) ?_
                    refine P_iaddN (a := ((8 * a1N) + (2 * ((j33 + 1) % 4)))) (b := 1) d_MD_inside_173 ?_
                    show PW _ _ _ _ _ _ (174, [(0, .ref 467), (1, .int (nI a1N)), (2, .int (nI a2N)), (3, .long v6), (5, .long v7), (7, .long v8), (9, .int j33_9), (10, .int (nI j33)), (11, .int 1)], [.int (nI (((8 * a1N) + (2 * ((j33 + 1) % 4))) + 1)), .ref 469], uj33)
                    refine P_iald (j := ((8 * a1N) + (2 * ((j33 + 1) % 4))) + 1) d_MD_inside_174 ((hFj33.2 _ (SN_f (by omega))).trans r469) (ix_nI (by omega)) (by omega) ?_
                    refine P_i2l d_MD_inside_175 ?_
                    refine P_lload d_MD_inside_176 rfl ?_
                    refine P_lmul d_MD_inside_178 ?_
                    generalize ((f469 (((8 * a1N) + (2 * ((j33 + 1) % 4))) + 1)).toInt64) * v8 = zz44
                    show PW _ _ _ _ _ _ (179, [(0, .ref 467), (1, .int (nI a1N)), (2, .int (nI a2N)), (3, .long v6), (5, .long v7), (7, .long v8), (9, .int j33_9), (10, .int (nI j33)), (11, .int 1)], [.long zz44], uj33)
                    refine P_lload d_MD_inside_179 rfl ?_
                    refine P_lcmp d_MD_inside_181 ?_
                    refine P_if_gt 189 d_MD_inside_182 (by decide) (fun c45 => ?_) (fun c45 => ?_)
                    · refine P_iconst (v := 0) d_MD_inside_189 (by decide) ?_
                      refine P_istore d_MD_inside_190 (by decide) rfl ?_
                      refine P_iload d_MD_inside_192 rfl ?_
                      refine P_iload d_MD_inside_194 rfl ?_
                      refine P_icmp_ne 202 d_MD_inside_196 (by decide) (fun _ => ?_) (fun h => absurd h (by decide))
                      refine P_aload_n d_MD_inside_202 rfl ?_
                      refine P_iload_n d_MD_inside_203 rfl ?_
                      refine P_iload d_MD_inside_204 rfl ?_
                      refine P_lload_n d_MD_inside_206 rfl ?_
                      refine P_lload d_MD_inside_207 rfl ?_
                      refine P_lload d_MD_inside_209 rfl ?_
                      refine P_callV (M := M_MD_inside) (pc := 211) (as := [.int (nI a1N), .int (nI j33), .long v6, .long v7, .long v8]) (b := 467) d_MD_inside_211 co_MD_sideOfSide ok_Model emj33 L_MD_377 im_MD_sideOfSide se_MD_sideOfSide (s_MD_sideOfSide a1N (by omega) j33 (by omega) v6 v7 v8 emj33 htp hqs hun ((hFj33.2 _ (SN_f (by omega))).trans r469)) rfl ⟨by decide, by decide⟩ ⟨by decide, by decide⟩ (by exact le_b rfl) ?_ _ rfl
                      rintro _ u ⟨⟨v46, rfl⟩, eu⟩
                      subst u
                      show PW _ _ _ _ _ _ (214, [(0, .ref 467), (1, .int (nI a1N)), (2, .int (nI a2N)), (3, .long v6), (5, .long v7), (7, .long v8), (9, .int j33_9), (10, .int (nI j33)), (11, .int 1), (12, .int 0)], [.int v46], uj33)
                      refine P_if_le 221 d_MD_inside_214 (by decide) (fun c47 => ?_) (fun c47 => ?_)
                      · refine P_iconst (v := 0) d_MD_inside_221 (by decide) ?_
                        refine P_istore d_MD_inside_222 (by decide) rfl ?_
                        refine P_iload d_MD_inside_224 rfl ?_
                        refine P_iload d_MD_inside_226 rfl ?_
                        refine P_iload d_MD_inside_228 rfl ?_
                        refine P_icmp_ne 237 d_MD_inside_230 (by decide) (fun _ => ?_) (fun h => absurd h (by decide))
                        refine P_iconst (v := 0) d_MD_inside_237 (by decide) ?_
                        refine P_icmp_eq 245 d_MD_inside_238 (by decide) (fun c48 => ?_) (fun c48 => ?_)
                        · refine P_iconst (v := 0) d_MD_inside_245 (by decide) ?_
                          refine P_istore d_MD_inside_246 (by decide) rfl ?_
                          refine P_iinc (v := nI (j33 + 1)) d_MD_inside_248 (by decide) rfl (nI_add j33 1) rfl ?_
                          refine P_goto 99 d_MD_inside_251 (by decide) ?_
                          show PW _ _ _ _ _ _ (99, [(0, .ref 467), (1, .int (nI a1N)), (2, .int (nI a2N)), (3, .long v6), (5, .long v7), (7, .long v8), (9, .int 0), (10, .int (nI (j33 + 1))), (11, .int 1), (12, .int 0), (13, .int 0)], [], uj33)
                          refine PW.drop (lv' := [(0, .ref 467), (1, .int (nI a1N)), (2, .int (nI a2N)), (3, .long v6), (5, .long v7), (7, .long v8), (9, .int 0), (10, .int (nI (j33 + 1)))]) (by simp) ?_
                          exact kkj33 (0, uj33) ⟨hIj33, hFj33, ⟨_, _, _, _, emj33⟩⟩
                        · refine P_iconst (v := 1) d_MD_inside_241 (by decide) ?_
                          refine P_goto 246 d_MD_inside_242 (by decide) ?_
                          refine P_istore d_MD_inside_246 (by decide) rfl ?_
                          refine P_iinc (v := nI (j33 + 1)) d_MD_inside_248 (by decide) rfl (nI_add j33 1) rfl ?_
                          refine P_goto 99 d_MD_inside_251 (by decide) ?_
                          show PW _ _ _ _ _ _ (99, [(0, .ref 467), (1, .int (nI a1N)), (2, .int (nI a2N)), (3, .long v6), (5, .long v7), (7, .long v8), (9, .int 1), (10, .int (nI (j33 + 1))), (11, .int 1), (12, .int 0), (13, .int 0)], [], uj33)
                          refine PW.drop (lv' := [(0, .ref 467), (1, .int (nI a1N)), (2, .int (nI a2N)), (3, .long v6), (5, .long v7), (7, .long v8), (9, .int 1), (10, .int (nI (j33 + 1)))]) (by simp) ?_
                          exact kkj33 (1, uj33) ⟨hIj33, hFj33, ⟨_, _, _, _, emj33⟩⟩
                      · refine P_iconst (v := 1) d_MD_inside_217 (by decide) ?_
                        refine P_goto 222 d_MD_inside_218 (by decide) ?_
                        refine P_istore d_MD_inside_222 (by decide) rfl ?_
                        refine P_iload d_MD_inside_224 rfl ?_
                        refine P_iload d_MD_inside_226 rfl ?_
                        refine P_iload d_MD_inside_228 rfl ?_
                        refine P_icmp_ne 237 d_MD_inside_230 (by decide) (fun h => absurd (by decide) h) (fun _ => ?_)
                        refine P_iconst (v := 1) d_MD_inside_233 (by decide) ?_
                        refine P_goto 238 d_MD_inside_234 (by decide) ?_
                        refine P_icmp_eq 245 d_MD_inside_238 (by decide) (fun c49 => ?_) (fun c49 => ?_)
                        · refine P_iconst (v := 0) d_MD_inside_245 (by decide) ?_
                          refine P_istore d_MD_inside_246 (by decide) rfl ?_
                          refine P_iinc (v := nI (j33 + 1)) d_MD_inside_248 (by decide) rfl (nI_add j33 1) rfl ?_
                          refine P_goto 99 d_MD_inside_251 (by decide) ?_
                          show PW _ _ _ _ _ _ (99, [(0, .ref 467), (1, .int (nI a1N)), (2, .int (nI a2N)), (3, .long v6), (5, .long v7), (7, .long v8), (9, .int 0), (10, .int (nI (j33 + 1))), (11, .int 1), (12, .int 0), (13, .int 1)], [], uj33)
                          refine PW.drop (lv' := [(0, .ref 467), (1, .int (nI a1N)), (2, .int (nI a2N)), (3, .long v6), (5, .long v7), (7, .long v8), (9, .int 0), (10, .int (nI (j33 + 1)))]) (by simp) ?_
                          exact kkj33 (0, uj33) ⟨hIj33, hFj33, ⟨_, _, _, _, emj33⟩⟩
                        · refine P_iconst (v := 1) d_MD_inside_241 (by decide) ?_
                          refine P_goto 246 d_MD_inside_242 (by decide) ?_
                          refine P_istore d_MD_inside_246 (by decide) rfl ?_
                          refine P_iinc (v := nI (j33 + 1)) d_MD_inside_248 (by decide) rfl (nI_add j33 1) rfl ?_
                          refine P_goto 99 d_MD_inside_251 (by decide) ?_
                          show PW _ _ _ _ _ _ (99, [(0, .ref 467), (1, .int (nI a1N)), (2, .int (nI a2N)), (3, .long v6), (5, .long v7), (7, .long v8), (9, .int 1), (10, .int (nI (j33 + 1))), (11, .int 1), (12, .int 0), (13, .int 1)], [], uj33)
                          refine PW.drop (lv' := [(0, .ref 467), (1, .int (nI a1N)), (2, .int (nI a2N)), (3, .long v6), (5, .long v7), (7, .long v8), (9, .int 1), (10, .int (nI (j33 + 1)))]) (by simp) ?_
                          exact kkj33 (1, uj33) ⟨hIj33, hFj33, ⟨_, _, _, _, emj33⟩⟩
                    · refine P_iconst (v := 1) d_MD_inside_185 (by decide) ?_
                      refine P_goto 190 d_MD_inside_186 (by decide) ?_
                      refine P_istore d_MD_inside_190 (by decide) rfl ?_
                      refine P_iload d_MD_inside_192 rfl ?_
                      refine P_iload d_MD_inside_194 rfl ?_
                      refine P_icmp_ne 202 d_MD_inside_196 (by decide) (fun h => absurd (by decide) h) (fun _ => ?_)
                      refine P_goto 248 d_MD_inside_199 (by decide) ?_
                      refine P_iinc (v := nI (j33 + 1)) d_MD_inside_248 (by decide) rfl (nI_add j33 1) rfl ?_
                      refine P_goto 99 d_MD_inside_251 (by decide) ?_
                      show PW _ _ _ _ _ _ (99, [(0, .ref 467), (1, .int (nI a1N)), (2, .int (nI a2N)), (3, .long v6), (5, .long v7), (7, .long v8), (9, .int j33_9), (10, .int (nI (j33 + 1))), (11, .int 1), (12, .int 1)], [], uj33)
                      refine PW.drop (lv' := [(0, .ref 467), (1, .int (nI a1N)), (2, .int (nI a2N)), (3, .long v6), (5, .long v7), (7, .long v8), (9, .int j33_9), (10, .int (nI (j33 + 1)))]) (by simp) ?_
                      exact kkj33 (j33_9, uj33) ⟨hIj33, hFj33, ⟨_, _, _, _, emj33⟩⟩
                · refine P_iconst (v := 2) d_MD_inside_120 (by decide) ?_
                  exact P_iret d_MD_inside_121 rfl (le_b rfl) (le_b rfl) ⟨⟨_, rfl⟩, hIj33, FrM.of hFj33 ⟨_, _, _, _, em⟩ ⟨_, _, _, _, emj33⟩⟩
            · refine P_bipush (v := (-3)) d_MD_inside_90 (by decide) ?_
              exact P_iret d_MD_inside_92 rfl (le_b rfl) (le_b rfl) ⟨⟨_, rfl⟩, hI1, FrM.of hF1 ⟨_, _, _, _, em⟩ ⟨_, _, _, _, s1⟩⟩
      · refine P_bipush (v := (-2)) d_MD_inside_53 (by decide) ?_
        exact P_iret d_MD_inside_55 rfl (le_b rfl) (le_b rfl) ⟨⟨_, rfl⟩, hI1, FrM.of hF1 ⟨_, _, _, _, em⟩ ⟨_, _, _, _, s1⟩⟩
    · refine P_iconst (v := (-1)) d_MD_inside_21 (by decide) ?_
      exact P_iret d_MD_inside_22 rfl (le_b rfl) (le_b rfl) ⟨⟨_, rfl⟩, hI1, FrM.of hF1 ⟨_, _, _, _, em⟩ ⟨_, _, _, _, s1⟩⟩
theorem s_MD_crossings {G : pG} {w : pW} (hI : I w) (a1 : Int32) (a2 : Int32) : PM G M_MD_crossings 5 0 0 [.ref 467, .int a1, .int a2] w (fun r w' => (∃ v, r = some (.int v)) ∧ I w' ∧ FrM w w') := by
  refine PM_of pn_MD_crossings (le_b rfl) ?_
  show PW _ _ _ _ _ _ (0, [(0, .ref 467), (1, .int a1), (2, .int a2)], [], w)
  obtain ⟨tp, qs, un, nq, ln, nl, sz, at_, pl, so, vl, wo, fa, fp, lf, lp, th, rm, um, sm, htp, hqs, hun, em⟩ := hI.md
  obtain ⟨fn, nm, np, en, hnm, e8, hnp, e9⟩ := hI.now
  obtain ⟨f469, r469⟩ := hI.ints (r := 469) (by decide) kc_469
  refine P_aload_n d_MD_crossings_0 rfl ?_
  refine P_iconst (v := 0) d_MD_crossings_1 (by decide) ?_
  refine P_putG (i := 0) d_MD_crossings_2 ok_Model (by decide) rfl L_MD_74 em (fun _ => rfl) (fun _ => rfl) (fun w1 e1 s1 n1 z1 => ?_)
  have hI1 : I w1 := hI.setM (show w1 = (_, wu _ 467 (mO (nI tp) (nI qs) nq (nI un) ln nl sz at_ pl so vl wo fa fp lf lp 0 rm um sm)) from e1) htp hqs hun
  have hF1 : Fr SN w w1 := Fr.set Fr.rf e1 (SN_t (by omega))
  show PW _ _ _ _ _ _ (5, [(0, .ref 467), (1, .int a1), (2, .int a2)], [], w1)
  refine P_aload_n d_MD_crossings_5 rfl ?_
  refine P_iload_n d_MD_crossings_6 rfl ?_
  refine P_callV (M := M_MD_crossings) (pc := 7) (as := [.int a1]) (b := 467) d_MD_crossings_7 co_MD_isQuad ok_Model s1 L_MD_238 im_MD_isQuad se_MD_isQuad (s_MD_isQuad a1 s1 htp hqs hun) rfl ⟨by decide, by decide⟩ ⟨by decide, by decide⟩ (by exact le_b rfl) ?_ _ rfl
  rintro _ u ⟨rfl, eu⟩
  subst u
  show PW _ _ _ _ _ _ (10, [(0, .ref 467), (1, .int a1), (2, .int a2)], [.int (bi (inN qs a1))], w1)
  refine P_if_eq 21 d_MD_crossings_10 (by decide) (fun c3 => ?_) (fun c3 => ?_)
  · refine P_iconst (v := (-1)) d_MD_crossings_21 (by decide) ?_
    exact P_iret d_MD_crossings_22 rfl (le_b rfl) (le_b rfl) ⟨⟨_, rfl⟩, hI1, FrM.of hF1 ⟨_, _, _, _, em⟩ ⟨_, _, _, _, s1⟩⟩
  · obtain ⟨a1N, ha1N, rfl⟩ := inN_of (bi_1 c3) (by omega)
    refine P_aload_n d_MD_crossings_13 rfl ?_
    refine P_iload_n d_MD_crossings_14 rfl ?_
    refine P_callV (M := M_MD_crossings) (pc := 15) (as := [.int a2]) (b := 467) d_MD_crossings_15 co_MD_isQuad ok_Model s1 L_MD_238 im_MD_isQuad se_MD_isQuad (s_MD_isQuad a2 s1 htp hqs hun) rfl ⟨by decide, by decide⟩ ⟨by decide, by decide⟩ (by exact le_b rfl) ?_ _ rfl
    rintro _ u ⟨rfl, eu⟩
    subst u
    show PW _ _ _ _ _ _ (18, [(0, .ref 467), (1, .int (nI a1N)), (2, .int a2)], [.int (bi (inN qs a2))], w1)
    refine P_if_ne 23 d_MD_crossings_18 (by decide) (fun c5 => ?_) (fun c5 => ?_)
    · obtain ⟨a2N, ha2N, rfl⟩ := inN_of (bi_1 c5) (by omega)
      refine P_iconst (v := 0) d_MD_crossings_23 (by decide) ?_
      refine P_istore_n d_MD_crossings_24 (by decide) rfl ?_
      refine P_iconst (v := 0) d_MD_crossings_25 (by decide) ?_
      refine P_istore d_MD_crossings_26 (by decide) rfl ?_
      refine PW_ind (σ := Int32 × pW) (4) (fun jj ss => I (ss.2) ∧ Fr SN w (ss.2) ∧ MS (nI tp) (nI qs) nq (nI un) ln nl sz at_ pl so vl wo fa fp lf lp ((ss.2).2 467)) (fun jj ss => (28, [(0, .ref 467), (1, .int (nI a1N)), (2, .int (nI a2N)), (3, .int ss.1), (4, .int (nI jj))], [], ss.2)) ?_ ?_ 0 (0, w1) (by omega) ⟨hI1, hF1, ⟨_, _, _, _, s1⟩⟩
      · rintro ⟨j6_3, uj6⟩ ⟨hIj6, hFj6, ⟨thj6, rmj6, umj6, smj6, emj6⟩⟩
        show PW _ _ _ _ _ _ (28, [(0, .ref 467), (1, .int (nI a1N)), (2, .int (nI a2N)), (3, .int j6_3), (4, .int 4)], [], uj6)
        refine P_iload d_MD_crossings_28 rfl ?_
        refine P_iconst (v := 4) d_MD_crossings_30 (by decide) ?_
        refine P_icmp_ge 76 d_MD_crossings_31 (by decide) (fun _ => ?_) (fun h => absurd (by decide) h)
        refine P_iload_n d_MD_crossings_76 rfl ?_
        exact P_iret d_MD_crossings_77 rfl (le_b rfl) (le_b rfl) ⟨⟨_, rfl⟩, hIj6, FrM.of hFj6 ⟨_, _, _, _, em⟩ ⟨_, _, _, _, emj6⟩⟩
      · rintro j6 ⟨j6_3, uj6⟩ hj6 ⟨hIj6, hFj6, ⟨thj6, rmj6, umj6, smj6, emj6⟩⟩ kkj6
        show PW _ _ _ _ _ _ (28, [(0, .ref 467), (1, .int (nI a1N)), (2, .int (nI a2N)), (3, .int j6_3), (4, .int (nI j6))], [], uj6)
        refine P_iload d_MD_crossings_28 rfl ?_
        refine P_iconst (v := 4) d_MD_crossings_30 (by decide) ?_
        refine P_icmp_ge 76 d_MD_crossings_31 (by decide) (fun h => absurd h (nI_geF (a := j6) (b := 4) (by omega) (by omega))) (fun _ => ?_)
        refine P_iconst (v := 0) d_MD_crossings_34 (by decide) ?_
        refine P_istore d_MD_crossings_35 (by decide) rfl ?_
        refine PW_ind (σ := Int32 × pW) (4) (fun jj ss => I (ss.2) ∧ Fr SN w (ss.2) ∧ MS (nI tp) (nI qs) nq (nI un) ln nl sz at_ pl so vl wo fa fp lf lp ((ss.2).2 467)) (fun jj ss => (37, [(0, .ref 467), (1, .int (nI a1N)), (2, .int (nI a2N)), (3, .int ss.1), (4, .int (nI j6)), (5, .int (nI jj))], [], ss.2)) ?_ ?_ 0 (j6_3, uj6) (by omega) ⟨hIj6, hFj6, ⟨_, _, _, _, emj6⟩⟩
        · rintro ⟨j7_3, uj7⟩ ⟨hIj7, hFj7, ⟨thj7, rmj7, umj7, smj7, emj7⟩⟩
          show PW _ _ _ _ _ _ (37, [(0, .ref 467), (1, .int (nI a1N)), (2, .int (nI a2N)), (3, .int j7_3), (4, .int (nI j6)), (5, .int 4)], [], uj7)
          refine P_iload d_MD_crossings_37 rfl ?_
          refine P_iconst (v := 4) d_MD_crossings_39 (by decide) ?_
          refine P_icmp_ge 70 d_MD_crossings_40 (by decide) (fun _ => ?_) (fun h => absurd (by decide) h)
          refine P_iinc (v := nI (j6 + 1)) d_MD_crossings_70 (by decide) rfl (nI_add j6 1) rfl ?_
          refine P_goto 28 d_MD_crossings_73 (by decide) ?_
          show PW _ _ _ _ _ _ (28, [(0, .ref 467), (1, .int (nI a1N)), (2, .int (nI a2N)), (3, .int j7_3), (4, .int (nI (j6 + 1))), (5, .int 4)], [], uj7)
          refine PW.drop (lv' := [(0, .ref 467), (1, .int (nI a1N)), (2, .int (nI a2N)), (3, .int j7_3), (4, .int (nI (j6 + 1)))]) (by simp) ?_
          exact kkj6 (j7_3, uj7) ⟨hIj7, hFj7, ⟨_, _, _, _, emj7⟩⟩
        · rintro j7 ⟨j7_3, uj7⟩ hj7 ⟨hIj7, hFj7, ⟨thj7, rmj7, umj7, smj7, emj7⟩⟩ kkj7
          show PW _ _ _ _ _ _ (37, [(0, .ref 467), (1, .int (nI a1N)), (2, .int (nI a2N)), (3, .int j7_3), (4, .int (nI j6)), (5, .int (nI j7))], [], uj7)
          refine P_iload d_MD_crossings_37 rfl ?_
          refine P_iconst (v := 4) d_MD_crossings_39 (by decide) ?_
          refine P_icmp_ge 70 d_MD_crossings_40 (by decide) (fun h => absurd h (nI_geF (a := j7) (b := 4) (by omega) (by omega))) (fun _ => ?_)
          refine P_iload_n d_MD_crossings_43 rfl ?_
          refine P_aload_n d_MD_crossings_44 rfl ?_
          refine P_iload_n d_MD_crossings_45 rfl ?_
          refine P_iload d_MD_crossings_46 rfl ?_
          refine P_iload_n d_MD_crossings_48 rfl ?_
          refine P_iload d_MD_crossings_49 rfl ?_
          refine P_callV (M := M_MD_crossings) (pc := 51) (as := [.int (nI a1N), .int (nI j6), .int (nI a2N), .int (nI j7)]) (b := 467) d_MD_crossings_51 co_MD_doMeet ok_Model emj7 L_MD_397 im_MD_doMeet se_MD_doMeet (s_MD_doMeet a1N (by omega) j6 (by omega) a2N (by omega) j7 (by omega) emj7 htp hqs hun ((hFj7.2 _ (SN_f (by omega))).trans r469)) rfl ⟨by decide, by decide⟩ ⟨by decide, by decide⟩ (by exact le_b rfl) ?_ _ rfl
          rintro _ u ⟨⟨v8, rfl⟩, eu⟩
          subst u
          show PW _ _ _ _ _ _ (54, [(0, .ref 467), (1, .int (nI a1N)), (2, .int (nI a2N)), (3, .int j7_3), (4, .int (nI j6)), (5, .int (nI j7))], [.int (bi v8), .int j7_3], uj7)
          refine P_if_eq 61 d_MD_crossings_54 (by decide) (fun c9 => ?_) (fun c9 => ?_)
          · refine P_iconst (v := 0) d_MD_crossings_61 (by decide) ?_
            refine P_iadd d_MD_crossings_62 ?_
            refine P_istore_n d_MD_crossings_63 (by decide) rfl ?_
            refine P_iinc (v := nI (j7 + 1)) d_MD_crossings_64 (by decide) rfl (nI_add j7 1) rfl ?_
            refine P_goto 37 d_MD_crossings_67 (by decide) ?_
            exact kkj7 (j7_3 + 0, uj7) ⟨hIj7, hFj7, ⟨_, _, _, _, emj7⟩⟩
          · refine P_iconst (v := 1) d_MD_crossings_57 (by decide) ?_
            refine P_goto 62 d_MD_crossings_58 (by decide) ?_
            refine P_iadd d_MD_crossings_62 ?_
            refine P_istore_n d_MD_crossings_63 (by decide) rfl ?_
            refine P_iinc (v := nI (j7 + 1)) d_MD_crossings_64 (by decide) rfl (nI_add j7 1) rfl ?_
            refine P_goto 37 d_MD_crossings_67 (by decide) ?_
            exact kkj7 (j7_3 + 1, uj7) ⟨hIj7, hFj7, ⟨_, _, _, _, emj7⟩⟩
    · refine P_iconst (v := (-1)) d_MD_crossings_21 (by decide) ?_
      exact P_iret d_MD_crossings_22 rfl (le_b rfl) (le_b rfl) ⟨⟨_, rfl⟩, hI1, FrM.of hF1 ⟨_, _, _, _, em⟩ ⟨_, _, _, _, s1⟩⟩
theorem s_MD_diagonal {G : pG} {w : pW} (hI : I w) (a1 : Int32) (a2 : Int32) (a3 : Int32) : PM G M_MD_diagonal 4 0 0 [.ref 467, .int a1, .int a2, .int a3] w (fun r w' => (∃ v, r = some (.long v)) ∧ I w' ∧ FrM w w') := by
  refine PM_of pn_MD_diagonal (le_b rfl) ?_
  show PW _ _ _ _ _ _ (0, [(0, .ref 467), (1, .int a1), (2, .int a2), (3, .int a3)], [], w)
  obtain ⟨tp, qs, un, nq, ln, nl, sz, at_, pl, so, vl, wo, fa, fp, lf, lp, th, rm, um, sm, htp, hqs, hun, em⟩ := hI.md
  obtain ⟨fn, nm, np, en, hnm, e8, hnp, e9⟩ := hI.now
  refine P_aload_n d_MD_diagonal_0 rfl ?_
  refine P_iconst (v := 0) d_MD_diagonal_1 (by decide) ?_
  refine P_putG (i := 0) d_MD_diagonal_2 ok_Model (by decide) rfl L_MD_74 em (fun _ => rfl) (fun _ => rfl) (fun w1 e1 s1 n1 z1 => ?_)
  have hI1 : I w1 := hI.setM (show w1 = (_, wu _ 467 (mO (nI tp) (nI qs) nq (nI un) ln nl sz at_ pl so vl wo fa fp lf lp 0 rm um sm)) from e1) htp hqs hun
  have hF1 : Fr SN w w1 := Fr.set Fr.rf e1 (SN_t (by omega))
  show PW _ _ _ _ _ _ (5, [(0, .ref 467), (1, .int a1), (2, .int a2), (3, .int a3)], [], w1)
  refine P_aload_n d_MD_diagonal_5 rfl ?_
  refine P_iload_n d_MD_diagonal_6 rfl ?_
  refine P_callV (M := M_MD_diagonal) (pc := 7) (as := [.int a1]) (b := 467) d_MD_diagonal_7 co_MD_isQuad ok_Model s1 L_MD_238 im_MD_isQuad se_MD_isQuad (s_MD_isQuad a1 s1 htp hqs hun) rfl ⟨by decide, by decide⟩ ⟨by decide, by decide⟩ (by exact le_b rfl) ?_ _ rfl
  rintro _ u ⟨rfl, eu⟩
  subst u
  show PW _ _ _ _ _ _ (10, [(0, .ref 467), (1, .int a1), (2, .int a2), (3, .int a3)], [.int (bi (inN qs a1))], w1)
  refine P_if_eq 27 d_MD_diagonal_10 (by decide) (fun c3 => ?_) (fun c3 => ?_)
  · refine P_ldc2 (v := (-9223372036854775808)) d_MD_diagonal_27 L_MD_307 ?_
    exact P_lret d_MD_diagonal_30 rfl (le_b rfl) (le_b rfl) ⟨⟨_, rfl⟩, hI1, FrM.of hF1 ⟨_, _, _, _, em⟩ ⟨_, _, _, _, s1⟩⟩
  · obtain ⟨a1N, ha1N, rfl⟩ := inN_of (bi_1 c3) (by omega)
    refine P_iload_n d_MD_diagonal_13 rfl ?_
    refine P_callS (M := M_MD_diagonal) (pc := 14) (as := [.int a2]) d_MD_diagonal_14 co_MD_isThird L_MD_244 sm_MD_isThird (s_MD_isThird a2) rfl ⟨by decide, by decide⟩ ⟨by decide, by decide⟩ (by exact le_b rfl) ?_ _ rfl
    rintro _ u ⟨rfl, eu⟩
    subst u
    show PW _ _ _ _ _ _ (17, [(0, .ref 467), (1, .int (nI a1N)), (2, .int a2), (3, .int a3)], [.int (bi (inN 3 a2))], w1)
    refine P_if_eq 27 d_MD_diagonal_17 (by decide) (fun c5 => ?_) (fun c5 => ?_)
    · refine P_ldc2 (v := (-9223372036854775808)) d_MD_diagonal_27 L_MD_307 ?_
      exact P_lret d_MD_diagonal_30 rfl (le_b rfl) (le_b rfl) ⟨⟨_, rfl⟩, hI1, FrM.of hF1 ⟨_, _, _, _, em⟩ ⟨_, _, _, _, s1⟩⟩
    · obtain ⟨a2N, ha2N, rfl⟩ := inN_of (bi_1 c5) (by omega)
      refine P_iload_n d_MD_diagonal_20 rfl ?_
      refine P_callS (M := M_MD_diagonal) (pc := 21) (as := [.int a3]) d_MD_diagonal_21 co_MD_isThird L_MD_244 sm_MD_isThird (s_MD_isThird a3) rfl ⟨by decide, by decide⟩ ⟨by decide, by decide⟩ (by exact le_b rfl) ?_ _ rfl
      rintro _ u ⟨rfl, eu⟩
      subst u
      show PW _ _ _ _ _ _ (24, [(0, .ref 467), (1, .int (nI a1N)), (2, .int (nI a2N)), (3, .int a3)], [.int (bi (inN 3 a3))], w1)
      refine P_if_ne 31 d_MD_diagonal_24 (by decide) (fun c7 => ?_) (fun c7 => ?_)
      · obtain ⟨a3N, ha3N, rfl⟩ := inN_of (bi_1 c7) (by omega)
        refine P_aload_n d_MD_diagonal_31 rfl ?_
        refine P_iload_n d_MD_diagonal_32 rfl ?_
        refine P_iload_n d_MD_diagonal_33 rfl ?_
        refine P_callV (M := M_MD_diagonal) (pc := 34) (as := [.int (nI a1N), .int (nI a2N)]) (b := 467) d_MD_diagonal_34 co_MD_laysDiagonal ok_Model s1 L_MD_404 im_MD_laysDiagonal se_MD_laysDiagonal (s_MD_laysDiagonal hI1 a1N (by omega) a2N (by omega)) rfl ⟨by decide, by decide⟩ ⟨by decide, by decide⟩ (by exact le_b rfl) ?_ _ rfl
        rintro _ w8 ⟨rfl, hI8, hG8⟩
        have hF8 : Fr SN w w8 := Fr.tr hF1 hG8.1
        obtain ⟨th8, rm8, um8, sm8, em8⟩ := hG8.2 (nI tp) (nI qs) nq (nI un) ln nl sz at_ pl so vl wo fa fp lf lp ⟨_, _, _, _, s1⟩
        show PW _ _ _ _ _ _ (37, [(0, .ref 467), (1, .int (nI a1N)), (2, .int (nI a2N)), (3, .int (nI a3N))], [], w8)
        refine P_aload_n d_MD_diagonal_37 rfl ?_
        refine P_getf (i := 28) d_MD_diagonal_38 ok_Model (by decide) L_MD_50 em8 rfl ?_
        refine P_iload_n d_MD_diagonal_41 rfl ?_
        obtain ⟨f9, f9e⟩ := hI8.row (r := 479) (by decide) kc_479
        refine P_lald (j := a3N) d_MD_diagonal_42 f9e (ix_nI (by omega)) (by omega) ?_
        exact P_lret d_MD_diagonal_43 rfl (le_b rfl) (le_b rfl) ⟨⟨_, rfl⟩, hI8, FrM.of hF8 ⟨_, _, _, _, em⟩ ⟨_, _, _, _, em8⟩⟩
      · refine P_ldc2 (v := (-9223372036854775808)) d_MD_diagonal_27 L_MD_307 ?_
        exact P_lret d_MD_diagonal_30 rfl (le_b rfl) (le_b rfl) ⟨⟨_, rfl⟩, hI1, FrM.of hF1 ⟨_, _, _, _, em⟩ ⟨_, _, _, _, s1⟩⟩
theorem s_MD_parallel {G : pG} {w : pW} (hI : I w) (a1 : Int32) (a2 : Int32) : PM G M_MD_parallel 4 0 0 [.ref 467, .int a1, .int a2] w (fun r w' => (∃ v, r = some (.int v)) ∧ I w' ∧ FrM w w') := by
  refine PM_of pn_MD_parallel (le_b rfl) ?_
  show PW _ _ _ _ _ _ (0, [(0, .ref 467), (1, .int a1), (2, .int a2)], [], w)
  obtain ⟨tp, qs, un, nq, ln, nl, sz, at_, pl, so, vl, wo, fa, fp, lf, lp, th, rm, um, sm, htp, hqs, hun, em⟩ := hI.md
  obtain ⟨fn, nm, np, en, hnm, e8, hnp, e9⟩ := hI.now
  refine P_aload_n d_MD_parallel_0 rfl ?_
  refine P_iconst (v := 0) d_MD_parallel_1 (by decide) ?_
  refine P_putG (i := 0) d_MD_parallel_2 ok_Model (by decide) rfl L_MD_74 em (fun _ => rfl) (fun _ => rfl) (fun w1 e1 s1 n1 z1 => ?_)
  have hI1 : I w1 := hI.setM (show w1 = (_, wu _ 467 (mO (nI tp) (nI qs) nq (nI un) ln nl sz at_ pl so vl wo fa fp lf lp 0 rm um sm)) from e1) htp hqs hun
  have hF1 : Fr SN w w1 := Fr.set Fr.rf e1 (SN_t (by omega))
  show PW _ _ _ _ _ _ (5, [(0, .ref 467), (1, .int a1), (2, .int a2)], [], w1)
  refine P_aload_n d_MD_parallel_5 rfl ?_
  refine P_iload_n d_MD_parallel_6 rfl ?_
  refine P_callV (M := M_MD_parallel) (pc := 7) (as := [.int a1]) (b := 467) d_MD_parallel_7 co_MD_isMap ok_Model s1 L_MD_241 im_MD_isMap se_MD_isMap (s_MD_isMap a1 s1 htp hqs hun ((hF1.2 _ (SN_f (by omega))).trans en) hnm e8 hnp e9) rfl ⟨by decide, by decide⟩ ⟨by decide, by decide⟩ (by exact le_b rfl) ?_ _ rfl
  rintro _ u ⟨rfl, eu⟩
  subst u
  show PW _ _ _ _ _ _ (10, [(0, .ref 467), (1, .int a1), (2, .int a2)], [.int (bi (inN nm a1))], w1)
  refine P_if_eq 21 d_MD_parallel_10 (by decide) (fun c3 => ?_) (fun c3 => ?_)
  · refine P_iconst (v := (-1)) d_MD_parallel_21 (by decide) ?_
    exact P_iret d_MD_parallel_22 rfl (le_b rfl) (le_b rfl) ⟨⟨_, rfl⟩, hI1, FrM.of hF1 ⟨_, _, _, _, em⟩ ⟨_, _, _, _, s1⟩⟩
  · obtain ⟨a1N, ha1N, rfl⟩ := inN_of (bi_1 c3) (by omega)
    refine P_aload_n d_MD_parallel_13 rfl ?_
    refine P_iload_n d_MD_parallel_14 rfl ?_
    refine P_callV (M := M_MD_parallel) (pc := 15) (as := [.int a2]) (b := 467) d_MD_parallel_15 co_MD_isQuad ok_Model s1 L_MD_238 im_MD_isQuad se_MD_isQuad (s_MD_isQuad a2 s1 htp hqs hun) rfl ⟨by decide, by decide⟩ ⟨by decide, by decide⟩ (by exact le_b rfl) ?_ _ rfl
    rintro _ u ⟨rfl, eu⟩
    subst u
    show PW _ _ _ _ _ _ (18, [(0, .ref 467), (1, .int (nI a1N)), (2, .int a2)], [.int (bi (inN qs a2))], w1)
    refine P_if_ne 23 d_MD_parallel_18 (by decide) (fun c5 => ?_) (fun c5 => ?_)
    · obtain ⟨a2N, ha2N, rfl⟩ := inN_of (bi_1 c5) (by omega)
      refine P_aload_n d_MD_parallel_23 rfl ?_
      refine P_iload_n d_MD_parallel_24 rfl ?_
      refine P_iconst (v := 0) d_MD_parallel_25 (by decide) ?_
      refine P_callV (M := M_MD_parallel) (pc := 26) (as := [.int (nI a2N), .int 0]) (b := 467) d_MD_parallel_26 co_MD_laysDiagonal ok_Model s1 L_MD_404 im_MD_laysDiagonal se_MD_laysDiagonal (s_MD_laysDiagonal hI1 a2N (by omega) 0 (by decide)) rfl ⟨by decide, by decide⟩ ⟨by decide, by decide⟩ (by exact le_b rfl) ?_ _ rfl
      rintro _ w6 ⟨rfl, hI6, hG6⟩
      have hF6 : Fr SN w w6 := Fr.tr hF1 hG6.1
      obtain ⟨th6, rm6, um6, sm6, em6⟩ := hG6.2 (nI tp) (nI qs) nq (nI un) ln nl sz at_ pl so vl wo fa fp lf lp ⟨_, _, _, _, s1⟩
      show PW _ _ _ _ _ _ (29, [(0, .ref 467), (1, .int (nI a1N)), (2, .int (nI a2N))], [], w6)
      refine P_aload_n d_MD_parallel_29 rfl ?_
      refine P_iload_n d_MD_parallel_30 rfl ?_
      refine P_aload_n d_MD_parallel_31 rfl ?_
      refine P_getf (i := 28) d_MD_parallel_32 ok_Model (by decide) L_MD_50 em6 rfl ?_
      refine P_iconst (v := 0) d_MD_parallel_35 (by decide) ?_
      obtain ⟨f7, f7e⟩ := hI6.row (r := 479) (by decide) kc_479
      refine P_lald (j := 0) d_MD_parallel_36 f7e ⟨by decide, by decide⟩ (by decide) ?_
      refine P_aload_n d_MD_parallel_37 rfl ?_
      refine P_getf (i := 28) d_MD_parallel_38 ok_Model (by decide) L_MD_50 em6 rfl ?_
      refine P_iconst (v := 1) d_MD_parallel_41 (by decide) ?_
      refine P_lald (j := 1) d_MD_parallel_42 f7e ⟨by decide, by decide⟩ (by decide) ?_
      refine P_aload_n d_MD_parallel_43 rfl ?_
      refine P_getf (i := 28) d_MD_parallel_44 ok_Model (by decide) L_MD_50 em6 rfl ?_
      refine P_iconst (v := 2) d_MD_parallel_47 (by decide) ?_
      refine P_lald (j := 2) d_MD_parallel_48 f7e ⟨by decide, by decide⟩ (by decide) ?_
      refine P_callV (M := M_MD_parallel) (pc := 49) (as := [.int (nI a1N), .long (f7 0), .long (f7 1), .long (f7 2)]) (b := 467) d_MD_parallel_49 co_MD_sideOf ok_Model em6 L_MD_315 im_MD_sideOf se_MD_sideOf (s_MD_sideOf a1N (by omega) (f7 0) (f7 1) (f7 2) em6 htp hqs hun ((hF6.2 _ (SN_f (by omega))).trans en) hnm e8 hnp e9) rfl ⟨by decide, by decide⟩ ⟨by decide, by decide⟩ (by exact le_b rfl) ?_ _ rfl
      rintro _ u ⟨⟨v8, rfl⟩, eu⟩
      subst u
      show PW _ _ _ _ _ _ (52, [(0, .ref 467), (1, .int (nI a1N)), (2, .int (nI a2N))], [.int v8], w6)
      refine P_if_ne 59 d_MD_parallel_52 (by decide) (fun c9 => ?_) (fun c9 => ?_)
      · refine P_iconst (v := 0) d_MD_parallel_59 (by decide) ?_
        refine P_istore_n d_MD_parallel_60 (by decide) rfl ?_
        refine P_aload_n d_MD_parallel_61 rfl ?_
        refine P_iload_n d_MD_parallel_62 rfl ?_
        refine P_iconst (v := 1) d_MD_parallel_63 (by decide) ?_
        refine P_callV (M := M_MD_parallel) (pc := 64) (as := [.int (nI a2N), .int 1]) (b := 467) d_MD_parallel_64 co_MD_laysDiagonal ok_Model em6 L_MD_404 im_MD_laysDiagonal se_MD_laysDiagonal (s_MD_laysDiagonal hI6 a2N (by omega) 1 (by decide)) rfl ⟨by decide, by decide⟩ ⟨by decide, by decide⟩ (by exact le_b rfl) ?_ _ rfl
        rintro _ w10 ⟨rfl, hI10, hG10⟩
        have hF10 : Fr SN w w10 := Fr.tr hF6 hG10.1
        obtain ⟨th10, rm10, um10, sm10, em10⟩ := hG10.2 (nI tp) (nI qs) nq (nI un) ln nl sz at_ pl so vl wo fa fp lf lp ⟨_, _, _, _, em6⟩
        show PW _ _ _ _ _ _ (67, [(0, .ref 467), (1, .int (nI a1N)), (2, .int (nI a2N)), (3, .int 0)], [], w10)
        refine P_iload_n d_MD_parallel_67 rfl ?_
        refine P_aload_n d_MD_parallel_68 rfl ?_
        refine P_iload_n d_MD_parallel_69 rfl ?_
        refine P_aload_n d_MD_parallel_70 rfl ?_
        refine P_getf (i := 28) d_MD_parallel_71 ok_Model (by decide) L_MD_50 em10 rfl ?_
        refine P_iconst (v := 0) d_MD_parallel_74 (by decide) ?_
        obtain ⟨f11, f11e⟩ := hI10.row (r := 479) (by decide) kc_479
        refine P_lald (j := 0) d_MD_parallel_75 f11e ⟨by decide, by decide⟩ (by decide) ?_
        refine P_aload_n d_MD_parallel_76 rfl ?_
        refine P_getf (i := 28) d_MD_parallel_77 ok_Model (by decide) L_MD_50 em10 rfl ?_
        refine P_iconst (v := 1) d_MD_parallel_80 (by decide) ?_
        refine P_lald (j := 1) d_MD_parallel_81 f11e ⟨by decide, by decide⟩ (by decide) ?_
        refine P_aload_n d_MD_parallel_82 rfl ?_
        refine P_getf (i := 28) d_MD_parallel_83 ok_Model (by decide) L_MD_50 em10 rfl ?_
        refine P_iconst (v := 2) d_MD_parallel_86 (by decide) ?_
        refine P_lald (j := 2) d_MD_parallel_87 f11e ⟨by decide, by decide⟩ (by decide) ?_
        refine P_callV (M := M_MD_parallel) (pc := 88) (as := [.int (nI a1N), .long (f11 0), .long (f11 1), .long (f11 2)]) (b := 467) d_MD_parallel_88 co_MD_sideOf ok_Model em10 L_MD_315 im_MD_sideOf se_MD_sideOf (s_MD_sideOf a1N (by omega) (f11 0) (f11 1) (f11 2) em10 htp hqs hun ((hF10.2 _ (SN_f (by omega))).trans en) hnm e8 hnp e9) rfl ⟨by decide, by decide⟩ ⟨by decide, by decide⟩ (by exact le_b rfl) ?_ _ rfl
        rintro _ u ⟨⟨v12, rfl⟩, eu⟩
        subst u
        show PW _ _ _ _ _ _ (91, [(0, .ref 467), (1, .int (nI a1N)), (2, .int (nI a2N)), (3, .int 0)], [.int v12, .int 0], w10)
        refine P_if_ne 98 d_MD_parallel_91 (by decide) (fun c13 => ?_) (fun c13 => ?_)
        · refine P_iconst (v := 0) d_MD_parallel_98 (by decide) ?_
          refine P_iaddN (a := 0) (b := 0) d_MD_parallel_99 ?_
          show PW _ _ _ _ _ _ (100, [(0, .ref 467), (1, .int (nI a1N)), (2, .int (nI a2N)), (3, .int 0)], [.int 0], w10)
          exact P_iret d_MD_parallel_100 rfl (le_b rfl) (le_b rfl) ⟨⟨_, rfl⟩, hI10, FrM.of hF10 ⟨_, _, _, _, em⟩ ⟨_, _, _, _, em10⟩⟩
        · refine P_iconst (v := 2) d_MD_parallel_94 (by decide) ?_
          refine P_goto 99 d_MD_parallel_95 (by decide) ?_
          refine P_iaddN (a := 0) (b := 2) d_MD_parallel_99 ?_
          show PW _ _ _ _ _ _ (100, [(0, .ref 467), (1, .int (nI a1N)), (2, .int (nI a2N)), (3, .int 0)], [.int 2], w10)
          exact P_iret d_MD_parallel_100 rfl (le_b rfl) (le_b rfl) ⟨⟨_, rfl⟩, hI10, FrM.of hF10 ⟨_, _, _, _, em⟩ ⟨_, _, _, _, em10⟩⟩
      · refine P_iconst (v := 1) d_MD_parallel_55 (by decide) ?_
        refine P_goto 60 d_MD_parallel_56 (by decide) ?_
        refine P_istore_n d_MD_parallel_60 (by decide) rfl ?_
        refine P_aload_n d_MD_parallel_61 rfl ?_
        refine P_iload_n d_MD_parallel_62 rfl ?_
        refine P_iconst (v := 1) d_MD_parallel_63 (by decide) ?_
        refine P_callV (M := M_MD_parallel) (pc := 64) (as := [.int (nI a2N), .int 1]) (b := 467) d_MD_parallel_64 co_MD_laysDiagonal ok_Model em6 L_MD_404 im_MD_laysDiagonal se_MD_laysDiagonal (s_MD_laysDiagonal hI6 a2N (by omega) 1 (by decide)) rfl ⟨by decide, by decide⟩ ⟨by decide, by decide⟩ (by exact le_b rfl) ?_ _ rfl
        rintro _ w14 ⟨rfl, hI14, hG14⟩
        have hF14 : Fr SN w w14 := Fr.tr hF6 hG14.1
        obtain ⟨th14, rm14, um14, sm14, em14⟩ := hG14.2 (nI tp) (nI qs) nq (nI un) ln nl sz at_ pl so vl wo fa fp lf lp ⟨_, _, _, _, em6⟩
        show PW _ _ _ _ _ _ (67, [(0, .ref 467), (1, .int (nI a1N)), (2, .int (nI a2N)), (3, .int 1)], [], w14)
        refine P_iload_n d_MD_parallel_67 rfl ?_
        refine P_aload_n d_MD_parallel_68 rfl ?_
        refine P_iload_n d_MD_parallel_69 rfl ?_
        refine P_aload_n d_MD_parallel_70 rfl ?_
        refine P_getf (i := 28) d_MD_parallel_71 ok_Model (by decide) L_MD_50 em14 rfl ?_
        refine P_iconst (v := 0) d_MD_parallel_74 (by decide) ?_
        obtain ⟨f15, f15e⟩ := hI14.row (r := 479) (by decide) kc_479
        refine P_lald (j := 0) d_MD_parallel_75 f15e ⟨by decide, by decide⟩ (by decide) ?_
        refine P_aload_n d_MD_parallel_76 rfl ?_
        refine P_getf (i := 28) d_MD_parallel_77 ok_Model (by decide) L_MD_50 em14 rfl ?_
        refine P_iconst (v := 1) d_MD_parallel_80 (by decide) ?_
        refine P_lald (j := 1) d_MD_parallel_81 f15e ⟨by decide, by decide⟩ (by decide) ?_
        refine P_aload_n d_MD_parallel_82 rfl ?_
        refine P_getf (i := 28) d_MD_parallel_83 ok_Model (by decide) L_MD_50 em14 rfl ?_
        refine P_iconst (v := 2) d_MD_parallel_86 (by decide) ?_
        refine P_lald (j := 2) d_MD_parallel_87 f15e ⟨by decide, by decide⟩ (by decide) ?_
        refine P_callV (M := M_MD_parallel) (pc := 88) (as := [.int (nI a1N), .long (f15 0), .long (f15 1), .long (f15 2)]) (b := 467) d_MD_parallel_88 co_MD_sideOf ok_Model em14 L_MD_315 im_MD_sideOf se_MD_sideOf (s_MD_sideOf a1N (by omega) (f15 0) (f15 1) (f15 2) em14 htp hqs hun ((hF14.2 _ (SN_f (by omega))).trans en) hnm e8 hnp e9) rfl ⟨by decide, by decide⟩ ⟨by decide, by decide⟩ (by exact le_b rfl) ?_ _ rfl
        rintro _ u ⟨⟨v16, rfl⟩, eu⟩
        subst u
        show PW _ _ _ _ _ _ (91, [(0, .ref 467), (1, .int (nI a1N)), (2, .int (nI a2N)), (3, .int 1)], [.int v16, .int 1], w14)
        refine P_if_ne 98 d_MD_parallel_91 (by decide) (fun c17 => ?_) (fun c17 => ?_)
        · refine P_iconst (v := 0) d_MD_parallel_98 (by decide) ?_
          refine P_iaddN (a := 1) (b := 0) d_MD_parallel_99 ?_
          show PW _ _ _ _ _ _ (100, [(0, .ref 467), (1, .int (nI a1N)), (2, .int (nI a2N)), (3, .int 1)], [.int 1], w14)
          exact P_iret d_MD_parallel_100 rfl (le_b rfl) (le_b rfl) ⟨⟨_, rfl⟩, hI14, FrM.of hF14 ⟨_, _, _, _, em⟩ ⟨_, _, _, _, em14⟩⟩
        · refine P_iconst (v := 2) d_MD_parallel_94 (by decide) ?_
          refine P_goto 99 d_MD_parallel_95 (by decide) ?_
          refine P_iaddN (a := 1) (b := 2) d_MD_parallel_99 ?_
          show PW _ _ _ _ _ _ (100, [(0, .ref 467), (1, .int (nI a1N)), (2, .int (nI a2N)), (3, .int 1)], [.int 3], w14)
          exact P_iret d_MD_parallel_100 rfl (le_b rfl) (le_b rfl) ⟨⟨_, rfl⟩, hI14, FrM.of hF14 ⟨_, _, _, _, em⟩ ⟨_, _, _, _, em14⟩⟩
    · refine P_iconst (v := (-1)) d_MD_parallel_21 (by decide) ?_
      exact P_iret d_MD_parallel_22 rfl (le_b rfl) (le_b rfl) ⟨⟨_, rfl⟩, hI1, FrM.of hF1 ⟨_, _, _, _, em⟩ ⟨_, _, _, _, s1⟩⟩
theorem s_MD_shapeBy {G : pG} {w : pW} (hI : I w) (a1 : Int32) (a2 : Int32) : PM G M_MD_shapeBy 5 0 0 [.ref 467, .int a1, .int a2] w (fun r w' => (∃ v, r = some (.int v)) ∧ I w' ∧ FrM w w') := by
  refine PM_of pn_MD_shapeBy (le_b rfl) ?_
  show PW _ _ _ _ _ _ (0, [(0, .ref 467), (1, .int a1), (2, .int a2)], [], w)
  obtain ⟨tp, qs, un, nq, ln, nl, sz, at_, pl, so, vl, wo, fa, fp, lf, lp, th, rm, um, sm, htp, hqs, hun, em⟩ := hI.md
  obtain ⟨fn, nm, np, en, hnm, e8, hnp, e9⟩ := hI.now
  obtain ⟨f469, r469⟩ := hI.ints (r := 469) (by decide) kc_469
  refine P_aload_n d_MD_shapeBy_0 rfl ?_
  refine P_iconst (v := 0) d_MD_shapeBy_1 (by decide) ?_
  refine P_putG (i := 0) d_MD_shapeBy_2 ok_Model (by decide) rfl L_MD_74 em (fun _ => rfl) (fun _ => rfl) (fun w1 e1 s1 n1 z1 => ?_)
  have hI1 : I w1 := hI.setM (show w1 = (_, wu _ 467 (mO (nI tp) (nI qs) nq (nI un) ln nl sz at_ pl so vl wo fa fp lf lp 0 rm um sm)) from e1) htp hqs hun
  have hF1 : Fr SN w w1 := Fr.set Fr.rf e1 (SN_t (by omega))
  show PW _ _ _ _ _ _ (5, [(0, .ref 467), (1, .int a1), (2, .int a2)], [], w1)
  refine P_aload_n d_MD_shapeBy_5 rfl ?_
  refine P_iload_n d_MD_shapeBy_6 rfl ?_
  refine P_callV (M := M_MD_shapeBy) (pc := 7) (as := [.int a1]) (b := 467) d_MD_shapeBy_7 co_MD_isMap ok_Model s1 L_MD_241 im_MD_isMap se_MD_isMap (s_MD_isMap a1 s1 htp hqs hun ((hF1.2 _ (SN_f (by omega))).trans en) hnm e8 hnp e9) rfl ⟨by decide, by decide⟩ ⟨by decide, by decide⟩ (by exact le_b rfl) ?_ _ rfl
  rintro _ u ⟨rfl, eu⟩
  subst u
  show PW _ _ _ _ _ _ (10, [(0, .ref 467), (1, .int a1), (2, .int a2)], [.int (bi (inN nm a1))], w1)
  refine P_if_eq 21 d_MD_shapeBy_10 (by decide) (fun c3 => ?_) (fun c3 => ?_)
  · refine P_iconst (v := (-1)) d_MD_shapeBy_21 (by decide) ?_
    exact P_iret d_MD_shapeBy_22 rfl (le_b rfl) (le_b rfl) ⟨⟨_, rfl⟩, hI1, FrM.of hF1 ⟨_, _, _, _, em⟩ ⟨_, _, _, _, s1⟩⟩
  · obtain ⟨a1N, ha1N, rfl⟩ := inN_of (bi_1 c3) (by omega)
    refine P_aload_n d_MD_shapeBy_13 rfl ?_
    refine P_iload_n d_MD_shapeBy_14 rfl ?_
    refine P_callV (M := M_MD_shapeBy) (pc := 15) (as := [.int a2]) (b := 467) d_MD_shapeBy_15 co_MD_isQuad ok_Model s1 L_MD_238 im_MD_isQuad se_MD_isQuad (s_MD_isQuad a2 s1 htp hqs hun) rfl ⟨by decide, by decide⟩ ⟨by decide, by decide⟩ (by exact le_b rfl) ?_ _ rfl
    rintro _ u ⟨rfl, eu⟩
    subst u
    show PW _ _ _ _ _ _ (18, [(0, .ref 467), (1, .int (nI a1N)), (2, .int a2)], [.int (bi (inN qs a2))], w1)
    refine P_if_ne 23 d_MD_shapeBy_18 (by decide) (fun c5 => ?_) (fun c5 => ?_)
    · obtain ⟨a2N, ha2N, rfl⟩ := inN_of (bi_1 c5) (by omega)
      refine P_iconst (v := 0) d_MD_shapeBy_23 (by decide) ?_
      refine P_istore_n d_MD_shapeBy_24 (by decide) rfl ?_
      refine PW_ind (σ := pW) (4) (fun jj ss => I (ss) ∧ Fr SN w (ss) ∧ MS (nI tp) (nI qs) nq (nI un) ln nl sz at_ pl so vl wo fa fp lf lp ((ss).2 467)) (fun jj ss => (25, [(0, .ref 467), (1, .int (nI a1N)), (2, .int (nI a2N)), (3, .int (nI jj))], [], ss)) ?_ ?_ 0 (w1) (by omega) ⟨hI1, hF1, ⟨_, _, _, _, s1⟩⟩
      · rintro uj6 ⟨hIj6, hFj6, ⟨thj6, rmj6, umj6, smj6, emj6⟩⟩
        show PW _ _ _ _ _ _ (25, [(0, .ref 467), (1, .int (nI a1N)), (2, .int (nI a2N)), (3, .int 4)], [], uj6)
        refine P_iload_n d_MD_shapeBy_25 rfl ?_
        refine P_iconst (v := 4) d_MD_shapeBy_26 (by decide) ?_
        refine P_icmp_ge 49 d_MD_shapeBy_27 (by decide) (fun _ => ?_) (fun h => absurd (by decide) h)
        refine P_iconst (v := 0) d_MD_shapeBy_49 (by decide) ?_
        refine P_istore_n d_MD_shapeBy_50 (by decide) rfl ?_
        refine PW_ind (σ := pW) (4) (fun jj ss => I (ss) ∧ Fr SN w (ss) ∧ MS (nI tp) (nI qs) nq (nI un) ln nl sz at_ pl so vl wo fa fp lf lp ((ss).2 467)) (fun jj ss => (51, [(0, .ref 467), (1, .int (nI a1N)), (2, .int (nI a2N)), (3, .int (nI jj))], [], ss)) ?_ ?_ 0 (uj6) (by omega) ⟨hIj6, hFj6, ⟨_, _, _, _, emj6⟩⟩
        · rintro uj7 ⟨hIj7, hFj7, ⟨thj7, rmj7, umj7, smj7, emj7⟩⟩
          show PW _ _ _ _ _ _ (51, [(0, .ref 467), (1, .int (nI a1N)), (2, .int (nI a2N)), (3, .int 4)], [], uj7)
          refine P_iload_n d_MD_shapeBy_51 rfl ?_
          refine P_iconst (v := 4) d_MD_shapeBy_52 (by decide) ?_
          refine P_icmp_ge 130 d_MD_shapeBy_53 (by decide) (fun _ => ?_) (fun h => absurd (by decide) h)
          refine P_aload_n d_MD_shapeBy_130 rfl ?_
          refine P_iload_n d_MD_shapeBy_131 rfl ?_
          refine P_iload_n d_MD_shapeBy_132 rfl ?_
          refine P_iconst (v := 0) d_MD_shapeBy_133 (by decide) ?_
          refine P_iconst (v := 1) d_MD_shapeBy_134 (by decide) ?_
          refine P_iconst (v := 2) d_MD_shapeBy_135 (by decide) ?_
          refine P_iconst (v := 3) d_MD_shapeBy_136 (by decide) ?_
          refine P_callV (M := M_MD_shapeBy) (pc := 137) (as := [.int (nI a1N), .int (nI a2N), .int 0, .int 1, .int 2, .int 3]) (b := 467) d_MD_shapeBy_137 co_MD_doCrossBy ok_Model emj7 L_MD_411 im_MD_doCrossBy se_MD_doCrossBy (s_MD_doCrossBy a1N (by omega) a2N (by omega) 0 (by decide) 1 (by decide) 2 (by decide) 3 (by decide) emj7 htp hqs hun ((hFj7.2 _ (SN_f (by omega))).trans r469) ((hFj7.2 _ (SN_f (by omega))).trans en) hnm e8 hnp e9) rfl ⟨by decide, by decide⟩ ⟨by decide, by decide⟩ (by exact le_b rfl) ?_ _ rfl
          rintro _ u ⟨⟨v8, rfl⟩, eu⟩
          subst u
          show PW _ _ _ _ _ _ (140, [(0, .ref 467), (1, .int (nI a1N)), (2, .int (nI a2N)), (3, .int 4)], [.int (bi v8)], uj7)
          refine P_if_ne 156 d_MD_shapeBy_140 (by decide) (fun c9 => ?_) (fun c9 => ?_)
          · refine P_iconst (v := 2) d_MD_shapeBy_156 (by decide) ?_
            refine P_goto 161 d_MD_shapeBy_157 (by decide) ?_
            exact P_iret d_MD_shapeBy_161 rfl (le_b rfl) (le_b rfl) ⟨⟨_, rfl⟩, hIj7, FrM.of hFj7 ⟨_, _, _, _, em⟩ ⟨_, _, _, _, emj7⟩⟩
          · refine P_aload_n d_MD_shapeBy_143 rfl ?_
            refine P_iload_n d_MD_shapeBy_144 rfl ?_
            refine P_iload_n d_MD_shapeBy_145 rfl ?_
            refine P_iconst (v := 1) d_MD_shapeBy_146 (by decide) ?_
            refine P_iconst (v := 2) d_MD_shapeBy_147 (by decide) ?_
            refine P_iconst (v := 3) d_MD_shapeBy_148 (by decide) ?_
            refine P_iconst (v := 0) d_MD_shapeBy_149 (by decide) ?_
            refine P_callV (M := M_MD_shapeBy) (pc := 150) (as := [.int (nI a1N), .int (nI a2N), .int 1, .int 2, .int 3, .int 0]) (b := 467) d_MD_shapeBy_150 co_MD_doCrossBy ok_Model emj7 L_MD_411 im_MD_doCrossBy se_MD_doCrossBy (s_MD_doCrossBy a1N (by omega) a2N (by omega) 1 (by decide) 2 (by decide) 3 (by decide) 0 (by decide) emj7 htp hqs hun ((hFj7.2 _ (SN_f (by omega))).trans r469) ((hFj7.2 _ (SN_f (by omega))).trans en) hnm e8 hnp e9) rfl ⟨by decide, by decide⟩ ⟨by decide, by decide⟩ (by exact le_b rfl) ?_ _ rfl
            rintro _ u ⟨⟨v10, rfl⟩, eu⟩
            subst u
            show PW _ _ _ _ _ _ (153, [(0, .ref 467), (1, .int (nI a1N)), (2, .int (nI a2N)), (3, .int 4)], [.int (bi v10)], uj7)
            refine P_if_eq 160 d_MD_shapeBy_153 (by decide) (fun c11 => ?_) (fun c11 => ?_)
            · refine P_iconst (v := 0) d_MD_shapeBy_160 (by decide) ?_
              exact P_iret d_MD_shapeBy_161 rfl (le_b rfl) (le_b rfl) ⟨⟨_, rfl⟩, hIj7, FrM.of hFj7 ⟨_, _, _, _, em⟩ ⟨_, _, _, _, emj7⟩⟩
            · refine P_iconst (v := 2) d_MD_shapeBy_156 (by decide) ?_
              refine P_goto 161 d_MD_shapeBy_157 (by decide) ?_
              exact P_iret d_MD_shapeBy_161 rfl (le_b rfl) (le_b rfl) ⟨⟨_, rfl⟩, hIj7, FrM.of hFj7 ⟨_, _, _, _, em⟩ ⟨_, _, _, _, emj7⟩⟩
        · rintro j7 uj7 hj7 ⟨hIj7, hFj7, ⟨thj7, rmj7, umj7, smj7, emj7⟩⟩ kkj7
          show PW _ _ _ _ _ _ (51, [(0, .ref 467), (1, .int (nI a1N)), (2, .int (nI a2N)), (3, .int (nI j7))], [], uj7)
          refine P_iload_n d_MD_shapeBy_51 rfl ?_
          refine P_iconst (v := 4) d_MD_shapeBy_52 (by decide) ?_
          refine P_icmp_ge 130 d_MD_shapeBy_53 (by decide) (fun h => absurd h (nI_geF (a := j7) (b := 4) (by omega) (by omega))) (fun _ => ?_)
          refine P_iload_n d_MD_shapeBy_56 rfl ?_
          refine P_iconst (v := 1) d_MD_shapeBy_57 (by decide) ?_
          refine P_iaddN (a := j7) (b := 1) d_MD_shapeBy_58 ?_
          show PW _ _ _ _ _ _ (59, [(0, .ref 467), (1, .int (nI a1N)), (2, .int (nI a2N)), (3, .int (nI j7))], [.int (nI (j7 + 1))], uj7)
          refine P_iconst (v := 4) d_MD_shapeBy_59 (by decide) ?_
          refine P_iremN (a := (j7 + 1)) (b := 4) d_MD_shapeBy_60 (by omega) (by omega) (by omega) ?_
          show PW _ _ _ _ _ _ (61, [(0, .ref 467), (1, .int (nI a1N)), (2, .int (nI a2N)), (3, .int (nI j7))], [.int (nI ((j7 + 1) % 4))], uj7)
          refine P_istore d_MD_shapeBy_61 (by decide) rfl ?_
          refine P_iload_n d_MD_shapeBy_63 rfl ?_
          refine P_iconst (v := 2) d_MD_shapeBy_64 (by decide) ?_
          refine P_iaddN (a := j7) (b := 2) d_MD_shapeBy_65 ?_
          show PW _ _ _ _ _ _ (66, [(0, .ref 467), (1, .int (nI a1N)), (2, .int (nI a2N)), (3, .int (nI j7)), (4, .int (nI ((j7 + 1) % 4)))], [.int (nI (j7 + 2))], uj7)
          refine P_iconst (v := 4) d_MD_shapeBy_66 (by decide) ?_
          refine P_iremN (a := (j7 + 2)) (b := 4) d_MD_shapeBy_67 (by omega) (by omega) (by omega) ?_
          show PW _ _ _ _ _ _ (68, [(0, .ref 467), (1, .int (nI a1N)), (2, .int (nI a2N)), (3, .int (nI j7)), (4, .int (nI ((j7 + 1) % 4)))], [.int (nI ((j7 + 2) % 4))], uj7)
          refine P_istore d_MD_shapeBy_68 (by decide) rfl ?_
          refine P_iload_n d_MD_shapeBy_70 rfl ?_
          refine P_iconst (v := 3) d_MD_shapeBy_71 (by decide) ?_
          refine P_iaddN (a := j7) (b := 3) d_MD_shapeBy_72 ?_
          show PW _ _ _ _ _ _ (73, [(0, .ref 467), (1, .int (nI a1N)), (2, .int (nI a2N)), (3, .int (nI j7)), (4, .int (nI ((j7 + 1) % 4))), (5, .int (nI ((j7 + 2) % 4)))], [.int (nI (j7 + 3))], uj7)
          refine P_iconst (v := 4) d_MD_shapeBy_73 (by decide) ?_
          refine P_iremN (a := (j7 + 3)) (b := 4) d_MD_shapeBy_74 (by omega) (by omega) (by omega) ?_
          show PW _ _ _ _ _ _ (75, [(0, .ref 467), (1, .int (nI a1N)), (2, .int (nI a2N)), (3, .int (nI j7)), (4, .int (nI ((j7 + 1) % 4))), (5, .int (nI ((j7 + 2) % 4)))], [.int (nI ((j7 + 3) % 4))], uj7)
          refine P_istore d_MD_shapeBy_75 (by decide) rfl ?_
          refine P_aload_n d_MD_shapeBy_77 rfl ?_
          refine P_iload_n d_MD_shapeBy_78 rfl ?_
          refine P_iload_n d_MD_shapeBy_79 rfl ?_
          refine P_iload d_MD_shapeBy_80 rfl ?_
          refine P_iload d_MD_shapeBy_82 rfl ?_
          refine P_iload_n d_MD_shapeBy_84 rfl ?_
          refine P_callV (M := M_MD_shapeBy) (pc := 85) (as := [.int (nI a1N), .int (nI a2N), .int (nI ((j7 + 1) % 4)), .int (nI ((j7 + 2) % 4)), .int (nI j7)]) (b := 467) d_MD_shapeBy_85 co_MD_turnBy ok_Model emj7 L_MD_407 im_MD_turnBy se_MD_turnBy (s_MD_turnBy a1N (by omega) a2N (by omega) ((j7 + 1) % 4) (by omega) ((j7 + 2) % 4) (by omega) j7 (by omega) emj7 htp hqs hun ((hFj7.2 _ (SN_f (by omega))).trans r469) ((hFj7.2 _ (SN_f (by omega))).trans en) hnm e8 hnp e9) rfl ⟨by decide, by decide⟩ ⟨by decide, by decide⟩ (by exact le_b rfl) ?_ _ rfl
          rintro _ u ⟨⟨v12, rfl⟩, eu⟩
          subst u
          show PW _ _ _ _ _ _ (88, [(0, .ref 467), (1, .int (nI a1N)), (2, .int (nI a2N)), (3, .int (nI j7)), (4, .int (nI ((j7 + 1) % 4))), (5, .int (nI ((j7 + 2) % 4))), (6, .int (nI ((j7 + 3) % 4)))], [.int v12], uj7)
          refine P_istore d_MD_shapeBy_88 (by decide) rfl ?_
          refine P_aload_n d_MD_shapeBy_90 rfl ?_
          refine P_iload_n d_MD_shapeBy_91 rfl ?_
          refine P_iload_n d_MD_shapeBy_92 rfl ?_
          refine P_iload d_MD_shapeBy_93 rfl ?_
          refine P_iload d_MD_shapeBy_95 rfl ?_
          refine P_iload_n d_MD_shapeBy_97 rfl ?_
          refine P_callV (M := M_MD_shapeBy) (pc := 98) (as := [.int (nI a1N), .int (nI a2N), .int (nI ((j7 + 2) % 4)), .int (nI ((j7 + 3) % 4)), .int (nI j7)]) (b := 467) d_MD_shapeBy_98 co_MD_turnBy ok_Model emj7 L_MD_407 im_MD_turnBy se_MD_turnBy (s_MD_turnBy a1N (by omega) a2N (by omega) ((j7 + 2) % 4) (by omega) ((j7 + 3) % 4) (by omega) j7 (by omega) emj7 htp hqs hun ((hFj7.2 _ (SN_f (by omega))).trans r469) ((hFj7.2 _ (SN_f (by omega))).trans en) hnm e8 hnp e9) rfl ⟨by decide, by decide⟩ ⟨by decide, by decide⟩ (by exact le_b rfl) ?_ _ rfl
          rintro _ u ⟨⟨v13, rfl⟩, eu⟩
          subst u
          show PW _ _ _ _ _ _ (101, [(0, .ref 467), (1, .int (nI a1N)), (2, .int (nI a2N)), (3, .int (nI j7)), (4, .int (nI ((j7 + 1) % 4))), (5, .int (nI ((j7 + 2) % 4))), (6, .int (nI ((j7 + 3) % 4))), (7, .int v12)], [.int v13], uj7)
          refine P_iload d_MD_shapeBy_101 rfl ?_
          refine P_icmp_ne 124 d_MD_shapeBy_103 (by decide) (fun c14 => ?_) (fun c14 => ?_)
          · refine P_iinc (v := nI (j7 + 1)) d_MD_shapeBy_124 (by decide) rfl (nI_add j7 1) rfl ?_
            refine P_goto 51 d_MD_shapeBy_127 (by decide) ?_
            show PW _ _ _ _ _ _ (51, [(0, .ref 467), (1, .int (nI a1N)), (2, .int (nI a2N)), (3, .int (nI (j7 + 1))), (4, .int (nI ((j7 + 1) % 4))), (5, .int (nI ((j7 + 2) % 4))), (6, .int (nI ((j7 + 3) % 4))), (7, .int v12)], [], uj7)
            refine PW.drop (lv' := [(0, .ref 467), (1, .int (nI a1N)), (2, .int (nI a2N)), (3, .int (nI (j7 + 1)))]) (by simp) ?_
            exact kkj7 (uj7) ⟨hIj7, hFj7, ⟨_, _, _, _, emj7⟩⟩
          · refine P_aload_n d_MD_shapeBy_106 rfl ?_
            refine P_iload_n d_MD_shapeBy_107 rfl ?_
            refine P_iload_n d_MD_shapeBy_108 rfl ?_
            refine P_iload d_MD_shapeBy_109 rfl ?_
            refine P_iload d_MD_shapeBy_111 rfl ?_
            refine P_iload_n d_MD_shapeBy_113 rfl ?_
            refine P_callV (M := M_MD_shapeBy) (pc := 114) (as := [.int (nI a1N), .int (nI a2N), .int (nI ((j7 + 3) % 4)), .int (nI ((j7 + 1) % 4)), .int (nI j7)]) (b := 467) d_MD_shapeBy_114 co_MD_turnBy ok_Model emj7 L_MD_407 im_MD_turnBy se_MD_turnBy (s_MD_turnBy a1N (by omega) a2N (by omega) ((j7 + 3) % 4) (by omega) ((j7 + 1) % 4) (by omega) j7 (by omega) emj7 htp hqs hun ((hFj7.2 _ (SN_f (by omega))).trans r469) ((hFj7.2 _ (SN_f (by omega))).trans en) hnm e8 hnp e9) rfl ⟨by decide, by decide⟩ ⟨by decide, by decide⟩ (by exact le_b rfl) ?_ _ rfl
            rintro _ u ⟨⟨v15, rfl⟩, eu⟩
            subst u
            show PW _ _ _ _ _ _ (117, [(0, .ref 467), (1, .int (nI a1N)), (2, .int (nI a2N)), (3, .int (nI j7)), (4, .int (nI ((j7 + 1) % 4))), (5, .int (nI ((j7 + 2) % 4))), (6, .int (nI ((j7 + 3) % 4))), (7, .int v12)], [.int v15], uj7)
            refine P_iload d_MD_shapeBy_117 rfl ?_
            refine P_icmp_ne 124 d_MD_shapeBy_119 (by decide) (fun c16 => ?_) (fun c16 => ?_)
            · refine P_iinc (v := nI (j7 + 1)) d_MD_shapeBy_124 (by decide) rfl (nI_add j7 1) rfl ?_
              refine P_goto 51 d_MD_shapeBy_127 (by decide) ?_
              show PW _ _ _ _ _ _ (51, [(0, .ref 467), (1, .int (nI a1N)), (2, .int (nI a2N)), (3, .int (nI (j7 + 1))), (4, .int (nI ((j7 + 1) % 4))), (5, .int (nI ((j7 + 2) % 4))), (6, .int (nI ((j7 + 3) % 4))), (7, .int v12)], [], uj7)
              refine PW.drop (lv' := [(0, .ref 467), (1, .int (nI a1N)), (2, .int (nI a2N)), (3, .int (nI (j7 + 1)))]) (by simp) ?_
              exact kkj7 (uj7) ⟨hIj7, hFj7, ⟨_, _, _, _, emj7⟩⟩
            · refine P_iconst (v := 1) d_MD_shapeBy_122 (by decide) ?_
              exact P_iret d_MD_shapeBy_123 rfl (le_b rfl) (le_b rfl) ⟨⟨_, rfl⟩, hIj7, FrM.of hFj7 ⟨_, _, _, _, em⟩ ⟨_, _, _, _, emj7⟩⟩
      · rintro j6 uj6 hj6 ⟨hIj6, hFj6, ⟨thj6, rmj6, umj6, smj6, emj6⟩⟩ kkj6
        show PW _ _ _ _ _ _ (25, [(0, .ref 467), (1, .int (nI a1N)), (2, .int (nI a2N)), (3, .int (nI j6))], [], uj6)
        refine P_iload_n d_MD_shapeBy_25 rfl ?_
        refine P_iconst (v := 4) d_MD_shapeBy_26 (by decide) ?_
        refine P_icmp_ge 49 d_MD_shapeBy_27 (by decide) (fun h => absurd h (nI_geF (a := j6) (b := 4) (by omega) (by omega))) (fun _ => ?_)
        refine P_aload_n d_MD_shapeBy_30 rfl ?_
        refine P_iload_n d_MD_shapeBy_31 rfl ?_
        refine P_iload_n d_MD_shapeBy_32 rfl ?_
        refine P_iload_n d_MD_shapeBy_33 rfl ?_
        refine P_callV (M := M_MD_shapeBy) (pc := 34) (as := [.int (nI a1N), .int (nI a2N), .int (nI j6)]) (b := 467) d_MD_shapeBy_34 co_MD_sideOfCorner ok_Model emj6 L_MD_319 im_MD_sideOfCorner se_MD_sideOfCorner (s_MD_sideOfCorner a1N (by omega) a2N (by omega) j6 (by omega) emj6 htp hqs hun ((hFj6.2 _ (SN_f (by omega))).trans r469) ((hFj6.2 _ (SN_f (by omega))).trans en) hnm e8 hnp e9) rfl ⟨by decide, by decide⟩ ⟨by decide, by decide⟩ (by exact le_b rfl) ?_ _ rfl
        rintro _ u ⟨⟨v17, rfl⟩, eu⟩
        subst u
        show PW _ _ _ _ _ _ (37, [(0, .ref 467), (1, .int (nI a1N)), (2, .int (nI a2N)), (3, .int (nI j6))], [.int v17], uj6)
        refine P_if_ne 43 d_MD_shapeBy_37 (by decide) (fun c18 => ?_) (fun c18 => ?_)
        · refine P_iinc (v := nI (j6 + 1)) d_MD_shapeBy_43 (by decide) rfl (nI_add j6 1) rfl ?_
          refine P_goto 25 d_MD_shapeBy_46 (by decide) ?_
          exact kkj6 (uj6) ⟨hIj6, hFj6, ⟨_, _, _, _, emj6⟩⟩
        · refine P_bipush (v := (-2)) d_MD_shapeBy_40 (by decide) ?_
          exact P_iret d_MD_shapeBy_42 rfl (le_b rfl) (le_b rfl) ⟨⟨_, rfl⟩, hIj6, FrM.of hFj6 ⟨_, _, _, _, em⟩ ⟨_, _, _, _, emj6⟩⟩
    · refine P_iconst (v := (-1)) d_MD_shapeBy_21 (by decide) ?_
      exact P_iret d_MD_shapeBy_22 rfl (le_b rfl) (le_b rfl) ⟨⟨_, rfl⟩, hI1, FrM.of hF1 ⟨_, _, _, _, em⟩ ⟨_, _, _, _, s1⟩⟩
theorem s_MD_pull {G : pG} {w : pW} (hI : I w) (a1 : Int32) (a2 : Int32) (a3 : Int32) (a4 : Int32) (a5 : Int32) : PM G M_MD_pull 5 0 0 [.ref 467, .int a1, .int a2, .int a3, .int a4, .int a5] w (fun r w' => (∃ v, r = some (.long v)) ∧ I w' ∧ FrM w w') := by
  refine PM_of pn_MD_pull (le_b rfl) ?_
  show PW _ _ _ _ _ _ (0, [(0, .ref 467), (1, .int a1), (2, .int a2), (3, .int a3), (4, .int a4), (5, .int a5)], [], w)
  obtain ⟨tp, qs, un, nq, ln, nl, sz, at_, pl, so, vl, wo, fa, fp, lf, lp, th, rm, um, sm, htp, hqs, hun, em⟩ := hI.md
  obtain ⟨fn, nm, np, en, hnm, e8, hnp, e9⟩ := hI.now
  refine P_aload_n d_MD_pull_0 rfl ?_
  refine P_iconst (v := 0) d_MD_pull_1 (by decide) ?_
  refine P_putG (i := 0) d_MD_pull_2 ok_Model (by decide) rfl L_MD_74 em (fun _ => rfl) (fun _ => rfl) (fun w1 e1 s1 n1 z1 => ?_)
  have hI1 : I w1 := hI.setM (show w1 = (_, wu _ 467 (mO (nI tp) (nI qs) nq (nI un) ln nl sz at_ pl so vl wo fa fp lf lp 0 rm um sm)) from e1) htp hqs hun
  have hF1 : Fr SN w w1 := Fr.set Fr.rf e1 (SN_t (by omega))
  show PW _ _ _ _ _ _ (5, [(0, .ref 467), (1, .int a1), (2, .int a2), (3, .int a3), (4, .int a4), (5, .int a5)], [], w1)
  refine P_aload_n d_MD_pull_5 rfl ?_
  refine P_iload_n d_MD_pull_6 rfl ?_
  refine P_callV (M := M_MD_pull) (pc := 7) (as := [.int a1]) (b := 467) d_MD_pull_7 co_MD_isMap ok_Model s1 L_MD_241 im_MD_isMap se_MD_isMap (s_MD_isMap a1 s1 htp hqs hun ((hF1.2 _ (SN_f (by omega))).trans en) hnm e8 hnp e9) rfl ⟨by decide, by decide⟩ ⟨by decide, by decide⟩ (by exact le_b rfl) ?_ _ rfl
  rintro _ u ⟨rfl, eu⟩
  subst u
  show PW _ _ _ _ _ _ (10, [(0, .ref 467), (1, .int a1), (2, .int a2), (3, .int a3), (4, .int a4), (5, .int a5)], [.int (bi (inN nm a1))], w1)
  refine P_if_eq 31 d_MD_pull_10 (by decide) (fun c3 => ?_) (fun c3 => ?_)
  · refine P_ldc2 (v := (-9223372036854775808)) d_MD_pull_31 L_MD_307 ?_
    exact P_lret d_MD_pull_34 rfl (le_b rfl) (le_b rfl) ⟨⟨_, rfl⟩, hI1, FrM.of hF1 ⟨_, _, _, _, em⟩ ⟨_, _, _, _, s1⟩⟩
  · obtain ⟨a1N, ha1N, rfl⟩ := inN_of (bi_1 c3) (by omega)
    refine P_iload_n d_MD_pull_13 rfl ?_
    refine P_iload_n d_MD_pull_14 rfl ?_
    refine P_iload d_MD_pull_15 rfl ?_
    refine P_callS (M := M_MD_pull) (pc := 17) (as := [.int a2, .int a3, .int a4]) d_MD_pull_17 co_MD_areEdges L_MD_303 sm_MD_areEdges (s_MD_areEdges a2 a3 a4) rfl ⟨by decide, by decide⟩ ⟨by decide, by decide⟩ (by exact le_b rfl) ?_ _ rfl
    rintro _ u ⟨⟨v4, rfl⟩, eu⟩
    subst u
    show PW _ _ _ _ _ _ (20, [(0, .ref 467), (1, .int (nI a1N)), (2, .int a2), (3, .int a3), (4, .int a4), (5, .int a5)], [.int (bi v4)], w1)
    refine P_if_eq 31 d_MD_pull_20 (by decide) (fun c5 => ?_) (fun c5 => ?_)
    · refine P_ldc2 (v := (-9223372036854775808)) d_MD_pull_31 L_MD_307 ?_
      exact P_lret d_MD_pull_34 rfl (le_b rfl) (le_b rfl) ⟨⟨_, rfl⟩, hI1, FrM.of hF1 ⟨_, _, _, _, em⟩ ⟨_, _, _, _, s1⟩⟩
    · refine P_iload d_MD_pull_23 rfl ?_
      refine P_callS (M := M_MD_pull) (pc := 25) (as := [.int a5]) d_MD_pull_25 co_MD_isThird L_MD_244 sm_MD_isThird (s_MD_isThird a5) rfl ⟨by decide, by decide⟩ ⟨by decide, by decide⟩ (by exact le_b rfl) ?_ _ rfl
      rintro _ u ⟨rfl, eu⟩
      subst u
      show PW _ _ _ _ _ _ (28, [(0, .ref 467), (1, .int (nI a1N)), (2, .int a2), (3, .int a3), (4, .int a4), (5, .int a5)], [.int (bi (inN 3 a5))], w1)
      refine P_if_ne 35 d_MD_pull_28 (by decide) (fun c7 => ?_) (fun c7 => ?_)
      · obtain ⟨a5N, ha5N, rfl⟩ := inN_of (bi_1 c7) (by omega)
        refine P_aload_n d_MD_pull_35 rfl ?_
        refine P_iload_n d_MD_pull_36 rfl ?_
        refine P_iload_n d_MD_pull_37 rfl ?_
        refine P_i2l d_MD_pull_38 ?_
        refine P_iload_n d_MD_pull_39 rfl ?_
        refine P_i2l d_MD_pull_40 ?_
        refine P_iload d_MD_pull_41 rfl ?_
        refine P_i2l d_MD_pull_43 ?_
        refine P_callV (M := M_MD_pull) (pc := 44) (as := [.int (nI a1N), .long a2.toInt64, .long a3.toInt64, .long a4.toInt64]) (b := 467) d_MD_pull_44 co_MD_laysPull ok_Model s1 L_MD_449 im_MD_laysPull se_MD_laysPull (s_MD_laysPull hI1 a1N (by omega) a2.toInt64 a3.toInt64 a4.toInt64) rfl ⟨by decide, by decide⟩ ⟨by decide, by decide⟩ (by exact le_b rfl) ?_ _ rfl
        rintro _ w8 ⟨rfl, hI8, hG8⟩
        have hF8 : Fr SN w w8 := Fr.tr hF1 hG8.1
        obtain ⟨th8, rm8, um8, sm8, em8⟩ := hG8.2 (nI tp) (nI qs) nq (nI un) ln nl sz at_ pl so vl wo fa fp lf lp ⟨_, _, _, _, s1⟩
        show PW _ _ _ _ _ _ (47, [(0, .ref 467), (1, .int (nI a1N)), (2, .int a2), (3, .int a3), (4, .int a4), (5, .int (nI a5N))], [], w8)
        refine P_aload_n d_MD_pull_47 rfl ?_
        refine P_getf (i := 28) d_MD_pull_48 ok_Model (by decide) L_MD_50 em8 rfl ?_
        refine P_iload d_MD_pull_51 rfl ?_
        obtain ⟨f9, f9e⟩ := hI8.row (r := 479) (by decide) kc_479
        refine P_lald (j := a5N) d_MD_pull_53 f9e (ix_nI (by omega)) (by omega) ?_
        exact P_lret d_MD_pull_54 rfl (le_b rfl) (le_b rfl) ⟨⟨_, rfl⟩, hI8, FrM.of hF8 ⟨_, _, _, _, em⟩ ⟨_, _, _, _, em8⟩⟩
      · refine P_ldc2 (v := (-9223372036854775808)) d_MD_pull_31 L_MD_307 ?_
        exact P_lret d_MD_pull_34 rfl (le_b rfl) (le_b rfl) ⟨⟨_, rfl⟩, hI1, FrM.of hF1 ⟨_, _, _, _, em⟩ ⟨_, _, _, _, s1⟩⟩
theorem s_MD_keepsLine {G : pG} {w : pW} (hI : I w) (a1 : Int32) (a2 : Int32) (a3 : Int32) (a4 : Int32) : PM G M_MD_keepsLine 5 0 0 [.ref 467, .int a1, .int a2, .int a3, .int a4] w (fun r w' => (∃ v, r = some (.int v)) ∧ I w' ∧ FrM w w') := by
  refine PM_of pn_MD_keepsLine (le_b rfl) ?_
  show PW _ _ _ _ _ _ (0, [(0, .ref 467), (1, .int a1), (2, .int a2), (3, .int a3), (4, .int a4)], [], w)
  obtain ⟨tp, qs, un, nq, ln, nl, sz, at_, pl, so, vl, wo, fa, fp, lf, lp, th, rm, um, sm, htp, hqs, hun, em⟩ := hI.md
  obtain ⟨fn, nm, np, en, hnm, e8, hnp, e9⟩ := hI.now
  refine P_aload_n d_MD_keepsLine_0 rfl ?_
  refine P_iconst (v := 0) d_MD_keepsLine_1 (by decide) ?_
  refine P_putG (i := 0) d_MD_keepsLine_2 ok_Model (by decide) rfl L_MD_74 em (fun _ => rfl) (fun _ => rfl) (fun w1 e1 s1 n1 z1 => ?_)
  have hI1 : I w1 := hI.setM (show w1 = (_, wu _ 467 (mO (nI tp) (nI qs) nq (nI un) ln nl sz at_ pl so vl wo fa fp lf lp 0 rm um sm)) from e1) htp hqs hun
  have hF1 : Fr SN w w1 := Fr.set Fr.rf e1 (SN_t (by omega))
  show PW _ _ _ _ _ _ (5, [(0, .ref 467), (1, .int a1), (2, .int a2), (3, .int a3), (4, .int a4)], [], w1)
  refine P_aload_n d_MD_keepsLine_5 rfl ?_
  refine P_iload_n d_MD_keepsLine_6 rfl ?_
  refine P_callV (M := M_MD_keepsLine) (pc := 7) (as := [.int a1]) (b := 467) d_MD_keepsLine_7 co_MD_isMap ok_Model s1 L_MD_241 im_MD_isMap se_MD_isMap (s_MD_isMap a1 s1 htp hqs hun ((hF1.2 _ (SN_f (by omega))).trans en) hnm e8 hnp e9) rfl ⟨by decide, by decide⟩ ⟨by decide, by decide⟩ (by exact le_b rfl) ?_ _ rfl
  rintro _ u ⟨rfl, eu⟩
  subst u
  show PW _ _ _ _ _ _ (10, [(0, .ref 467), (1, .int a1), (2, .int a2), (3, .int a3), (4, .int a4)], [.int (bi (inN nm a1))], w1)
  refine P_if_eq 23 d_MD_keepsLine_10 (by decide) (fun c3 => ?_) (fun c3 => ?_)
  · refine P_iconst (v := (-1)) d_MD_keepsLine_23 (by decide) ?_
    exact P_iret d_MD_keepsLine_24 rfl (le_b rfl) (le_b rfl) ⟨⟨_, rfl⟩, hI1, FrM.of hF1 ⟨_, _, _, _, em⟩ ⟨_, _, _, _, s1⟩⟩
  · obtain ⟨a1N, ha1N, rfl⟩ := inN_of (bi_1 c3) (by omega)
    refine P_iload_n d_MD_keepsLine_13 rfl ?_
    refine P_iload_n d_MD_keepsLine_14 rfl ?_
    refine P_iload d_MD_keepsLine_15 rfl ?_
    refine P_callS (M := M_MD_keepsLine) (pc := 17) (as := [.int a2, .int a3, .int a4]) d_MD_keepsLine_17 co_MD_areEdges L_MD_303 sm_MD_areEdges (s_MD_areEdges a2 a3 a4) rfl ⟨by decide, by decide⟩ ⟨by decide, by decide⟩ (by exact le_b rfl) ?_ _ rfl
    rintro _ u ⟨⟨v4, rfl⟩, eu⟩
    subst u
    show PW _ _ _ _ _ _ (20, [(0, .ref 467), (1, .int (nI a1N)), (2, .int a2), (3, .int a3), (4, .int a4)], [.int (bi v4)], w1)
    refine P_if_ne 25 d_MD_keepsLine_20 (by decide) (fun c5 => ?_) (fun c5 => ?_)
    · refine P_aload_n d_MD_keepsLine_25 rfl ?_
      refine P_iload_n d_MD_keepsLine_26 rfl ?_
      refine P_iload_n d_MD_keepsLine_27 rfl ?_
      refine P_i2l d_MD_keepsLine_28 ?_
      refine P_iload_n d_MD_keepsLine_29 rfl ?_
      refine P_i2l d_MD_keepsLine_30 ?_
      refine P_iload d_MD_keepsLine_31 rfl ?_
      refine P_i2l d_MD_keepsLine_33 ?_
      refine P_callV (M := M_MD_keepsLine) (pc := 34) (as := [.int (nI a1N), .long a2.toInt64, .long a3.toInt64, .long a4.toInt64]) (b := 467) d_MD_keepsLine_34 co_MD_laysPull ok_Model s1 L_MD_449 im_MD_laysPull se_MD_laysPull (s_MD_laysPull hI1 a1N (by omega) a2.toInt64 a3.toInt64 a4.toInt64) rfl ⟨by decide, by decide⟩ ⟨by decide, by decide⟩ (by exact le_b rfl) ?_ _ rfl
      rintro _ w6 ⟨rfl, hI6, hG6⟩
      have hF6 : Fr SN w w6 := Fr.tr hF1 hG6.1
      obtain ⟨th6, rm6, um6, sm6, em6⟩ := hG6.2 (nI tp) (nI qs) nq (nI un) ln nl sz at_ pl so vl wo fa fp lf lp ⟨_, _, _, _, s1⟩
      show PW _ _ _ _ _ _ (37, [(0, .ref 467), (1, .int (nI a1N)), (2, .int a2), (3, .int a3), (4, .int a4)], [], w6)
      refine P_aload_n d_MD_keepsLine_37 rfl ?_
      refine P_getf (i := 29) d_MD_keepsLine_38 ok_Model (by decide) L_MD_53 em6 rfl ?_
      refine P_iconst (v := 0) d_MD_keepsLine_41 (by decide) ?_
      refine P_iload_n d_MD_keepsLine_42 rfl ?_
      refine P_i2l d_MD_keepsLine_43 ?_
      obtain ⟨f7, f7e⟩ := hI6.row (r := 480) (by decide) kc_480
      refine P_lastG (j := 0) d_MD_keepsLine_44 f7e (by decide) ⟨by decide, by decide⟩ (by decide) (fun w8 e8 s8 n8 z8 => ?_)
      generalize vp_updL _ _ _ = g9 at e8 s8
      have hI8 : I w8 := hI6.setL e8 kc_480
      have hF8 : Fr SN w w8 := Fr.set hF6 e8 (SN_t (by omega))
      show PW _ _ _ _ _ _ (45, [(0, .ref 467), (1, .int (nI a1N)), (2, .int a2), (3, .int a3), (4, .int a4)], [], w8)
      refine P_aload_n d_MD_keepsLine_45 rfl ?_
      refine P_getf (i := 29) d_MD_keepsLine_46 ok_Model (by decide) L_MD_53 ((w_n e8 _ (by decide)).trans em6) rfl ?_
      refine P_iconst (v := 1) d_MD_keepsLine_49 (by decide) ?_
      refine P_iload_n d_MD_keepsLine_50 rfl ?_
      refine P_i2l d_MD_keepsLine_51 ?_
      refine P_lastG (j := 1) d_MD_keepsLine_52 s8 (by decide) ⟨by decide, by decide⟩ (by decide) (fun w10 e10 s10 n10 z10 => ?_)
      generalize vp_updL _ _ _ = g11 at e10 s10
      have hI10 : I w10 := hI8.setL e10 kc_480
      have hF10 : Fr SN w w10 := Fr.set hF8 e10 (SN_t (by omega))
      show PW _ _ _ _ _ _ (53, [(0, .ref 467), (1, .int (nI a1N)), (2, .int a2), (3, .int a3), (4, .int a4)], [], w10)
      refine P_aload_n d_MD_keepsLine_53 rfl ?_
      refine P_getf (i := 29) d_MD_keepsLine_54 ok_Model (by decide) L_MD_53 ((w_n e10 _ (by decide)).trans ((w_n e8 _ (by decide)).trans em6)) rfl ?_
      refine P_iconst (v := 2) d_MD_keepsLine_57 (by decide) ?_
      refine P_iload d_MD_keepsLine_58 rfl ?_
      refine P_i2l d_MD_keepsLine_60 ?_
      refine P_lastG (j := 2) d_MD_keepsLine_61 s10 (by decide) ⟨by decide, by decide⟩ (by decide) (fun w12 e12 s12 n12 z12 => ?_)
      generalize vp_updL _ _ _ = g13 at e12 s12
      have hI12 : I w12 := hI10.setL e12 kc_480
      have hF12 : Fr SN w w12 := Fr.set hF10 e12 (SN_t (by omega))
      show PW _ _ _ _ _ _ (62, [(0, .ref 467), (1, .int (nI a1N)), (2, .int a2), (3, .int a3), (4, .int a4)], [], w12)
      refine P_aload_n d_MD_keepsLine_62 rfl ?_
      refine P_getf (i := 29) d_MD_keepsLine_63 ok_Model (by decide) L_MD_53 ((w_n e12 _ (by decide)).trans ((w_n e10 _ (by decide)).trans ((w_n e8 _ (by decide)).trans em6))) rfl ?_
      refine P_callS (M := M_MD_keepsLine) (pc := 66) (as := [.ref 480]) d_MD_keepsLine_66 co_MD_reduces L_MD_220 sm_MD_reduces (v_MD_reduces s12 (by decide) (by decide) (by decide)) rfl ⟨by decide, by decide⟩ ⟨by decide, by decide⟩ (by exact le_b rfl) ?_ _ rfl
      rintro _ w14 ⟨rfl, g14, e14⟩
      have s14 := w_s e14
      have hI14 : I w14 := hI12.setL e14 kc_480
      have hF14 : Fr SN w w14 := Fr.set hF12 e14 (SN_t (by omega))
      show PW _ _ _ _ _ _ (69, [(0, .ref 467), (1, .int (nI a1N)), (2, .int a2), (3, .int a3), (4, .int a4)], [], w14)
      refine P_aload_n d_MD_keepsLine_69 rfl ?_
      refine P_getf (i := 28) d_MD_keepsLine_70 ok_Model (by decide) L_MD_50 ((w_n e14 _ (by decide)).trans ((w_n e12 _ (by decide)).trans ((w_n e10 _ (by decide)).trans ((w_n e8 _ (by decide)).trans em6)))) rfl ?_
      refine P_iconst (v := 0) d_MD_keepsLine_73 (by decide) ?_
      obtain ⟨f15, f15e⟩ := hI14.row (r := 479) (by decide) kc_479
      refine P_lald (j := 0) d_MD_keepsLine_74 f15e ⟨by decide, by decide⟩ (by decide) ?_
      refine P_aload_n d_MD_keepsLine_75 rfl ?_
      refine P_getf (i := 29) d_MD_keepsLine_76 ok_Model (by decide) L_MD_53 ((w_n e14 _ (by decide)).trans ((w_n e12 _ (by decide)).trans ((w_n e10 _ (by decide)).trans ((w_n e8 _ (by decide)).trans em6)))) rfl ?_
      refine P_iconst (v := 0) d_MD_keepsLine_79 (by decide) ?_
      refine P_lald (j := 0) d_MD_keepsLine_80 s14 ⟨by decide, by decide⟩ (by decide) ?_
      refine P_lcmp d_MD_keepsLine_81 ?_
      refine P_if_ne 121 d_MD_keepsLine_82 (by decide) (fun c16 => ?_) (fun c16 => ?_)
      · refine P_iconst (v := 0) d_MD_keepsLine_121 (by decide) ?_
        exact P_iret d_MD_keepsLine_122 rfl (le_b rfl) (le_b rfl) ⟨⟨_, rfl⟩, hI14, FrM.of hF14 ⟨_, _, _, _, em⟩ ⟨_, _, _, _, ((w_n e14 _ (by decide)).trans ((w_n e12 _ (by decide)).trans ((w_n e10 _ (by decide)).trans ((w_n e8 _ (by decide)).trans em6))))⟩⟩
      · refine P_aload_n d_MD_keepsLine_85 rfl ?_
        refine P_getf (i := 28) d_MD_keepsLine_86 ok_Model (by decide) L_MD_50 ((w_n e14 _ (by decide)).trans ((w_n e12 _ (by decide)).trans ((w_n e10 _ (by decide)).trans ((w_n e8 _ (by decide)).trans em6)))) rfl ?_
        refine P_iconst (v := 1) d_MD_keepsLine_89 (by decide) ?_
        refine P_lald (j := 1) d_MD_keepsLine_90 f15e ⟨by decide, by decide⟩ (by decide) ?_
        refine P_aload_n d_MD_keepsLine_91 rfl ?_
        refine P_getf (i := 29) d_MD_keepsLine_92 ok_Model (by decide) L_MD_53 ((w_n e14 _ (by decide)).trans ((w_n e12 _ (by decide)).trans ((w_n e10 _ (by decide)).trans ((w_n e8 _ (by decide)).trans em6)))) rfl ?_
        refine P_iconst (v := 1) d_MD_keepsLine_95 (by decide) ?_
        refine P_lald (j := 1) d_MD_keepsLine_96 s14 ⟨by decide, by decide⟩ (by decide) ?_
        refine P_lcmp d_MD_keepsLine_97 ?_
        refine P_if_ne 121 d_MD_keepsLine_98 (by decide) (fun c17 => ?_) (fun c17 => ?_)
        · refine P_iconst (v := 0) d_MD_keepsLine_121 (by decide) ?_
          exact P_iret d_MD_keepsLine_122 rfl (le_b rfl) (le_b rfl) ⟨⟨_, rfl⟩, hI14, FrM.of hF14 ⟨_, _, _, _, em⟩ ⟨_, _, _, _, ((w_n e14 _ (by decide)).trans ((w_n e12 _ (by decide)).trans ((w_n e10 _ (by decide)).trans ((w_n e8 _ (by decide)).trans em6))))⟩⟩
        · refine P_aload_n d_MD_keepsLine_101 rfl ?_
          refine P_getf (i := 28) d_MD_keepsLine_102 ok_Model (by decide) L_MD_50 ((w_n e14 _ (by decide)).trans ((w_n e12 _ (by decide)).trans ((w_n e10 _ (by decide)).trans ((w_n e8 _ (by decide)).trans em6)))) rfl ?_
          refine P_iconst (v := 2) d_MD_keepsLine_105 (by decide) ?_
          refine P_lald (j := 2) d_MD_keepsLine_106 f15e ⟨by decide, by decide⟩ (by decide) ?_
          refine P_aload_n d_MD_keepsLine_107 rfl ?_
          refine P_getf (i := 29) d_MD_keepsLine_108 ok_Model (by decide) L_MD_53 ((w_n e14 _ (by decide)).trans ((w_n e12 _ (by decide)).trans ((w_n e10 _ (by decide)).trans ((w_n e8 _ (by decide)).trans em6)))) rfl ?_
          refine P_iconst (v := 2) d_MD_keepsLine_111 (by decide) ?_
          refine P_lald (j := 2) d_MD_keepsLine_112 s14 ⟨by decide, by decide⟩ (by decide) ?_
          refine P_lcmp d_MD_keepsLine_113 ?_
          refine P_if_ne 121 d_MD_keepsLine_114 (by decide) (fun c18 => ?_) (fun c18 => ?_)
          · refine P_iconst (v := 0) d_MD_keepsLine_121 (by decide) ?_
            exact P_iret d_MD_keepsLine_122 rfl (le_b rfl) (le_b rfl) ⟨⟨_, rfl⟩, hI14, FrM.of hF14 ⟨_, _, _, _, em⟩ ⟨_, _, _, _, ((w_n e14 _ (by decide)).trans ((w_n e12 _ (by decide)).trans ((w_n e10 _ (by decide)).trans ((w_n e8 _ (by decide)).trans em6))))⟩⟩
          · refine P_iconst (v := 1) d_MD_keepsLine_117 (by decide) ?_
            refine P_goto 122 d_MD_keepsLine_118 (by decide) ?_
            exact P_iret d_MD_keepsLine_122 rfl (le_b rfl) (le_b rfl) ⟨⟨_, rfl⟩, hI14, FrM.of hF14 ⟨_, _, _, _, em⟩ ⟨_, _, _, _, ((w_n e14 _ (by decide)).trans ((w_n e12 _ (by decide)).trans ((w_n e10 _ (by decide)).trans ((w_n e8 _ (by decide)).trans em6))))⟩⟩
    · refine P_iconst (v := (-1)) d_MD_keepsLine_23 (by decide) ?_
      exact P_iret d_MD_keepsLine_24 rfl (le_b rfl) (le_b rfl) ⟨⟨_, rfl⟩, hI1, FrM.of hF1 ⟨_, _, _, _, em⟩ ⟨_, _, _, _, s1⟩⟩
theorem s_MD_side {G : pG} {w : pW} (hI : I w) (a1 : Int32) (a2 : Int32) (a3 : Int32) : PM G M_MD_side 3 0 0 [.ref 467, .int a1, .int a2, .int a3] w (fun r w' => (∃ v, r = some (.long v)) ∧ I w' ∧ FrM w w') := by
  refine PM_of pn_MD_side (le_b rfl) ?_
  show PW _ _ _ _ _ _ (0, [(0, .ref 467), (1, .int a1), (2, .int a2), (3, .int a3)], [], w)
  obtain ⟨tp, qs, un, nq, ln, nl, sz, at_, pl, so, vl, wo, fa, fp, lf, lp, th, rm, um, sm, htp, hqs, hun, em⟩ := hI.md
  obtain ⟨fn, nm, np, en, hnm, e8, hnp, e9⟩ := hI.now
  refine P_aload_n d_MD_side_0 rfl ?_
  refine P_iconst (v := 0) d_MD_side_1 (by decide) ?_
  refine P_putG (i := 0) d_MD_side_2 ok_Model (by decide) rfl L_MD_74 em (fun _ => rfl) (fun _ => rfl) (fun w1 e1 s1 n1 z1 => ?_)
  have hI1 : I w1 := hI.setM (show w1 = (_, wu _ 467 (mO (nI tp) (nI qs) nq (nI un) ln nl sz at_ pl so vl wo fa fp lf lp 0 rm um sm)) from e1) htp hqs hun
  have hF1 : Fr SN w w1 := Fr.set Fr.rf e1 (SN_t (by omega))
  show PW _ _ _ _ _ _ (5, [(0, .ref 467), (1, .int a1), (2, .int a2), (3, .int a3)], [], w1)
  refine P_aload_n d_MD_side_5 rfl ?_
  refine P_iload_n d_MD_side_6 rfl ?_
  refine P_callV (M := M_MD_side) (pc := 7) (as := [.int a1]) (b := 467) d_MD_side_7 co_MD_isQuad ok_Model s1 L_MD_238 im_MD_isQuad se_MD_isQuad (s_MD_isQuad a1 s1 htp hqs hun) rfl ⟨by decide, by decide⟩ ⟨by decide, by decide⟩ (by exact le_b rfl) ?_ _ rfl
  rintro _ u ⟨rfl, eu⟩
  subst u
  show PW _ _ _ _ _ _ (10, [(0, .ref 467), (1, .int a1), (2, .int a2), (3, .int a3)], [.int (bi (inN qs a1))], w1)
  refine P_if_eq 29 d_MD_side_10 (by decide) (fun c3 => ?_) (fun c3 => ?_)
  · refine P_ldc2 (v := (-9223372036854775808)) d_MD_side_29 L_MD_307 ?_
    exact P_lret d_MD_side_32 rfl (le_b rfl) (le_b rfl) ⟨⟨_, rfl⟩, hI1, FrM.of hF1 ⟨_, _, _, _, em⟩ ⟨_, _, _, _, s1⟩⟩
  · obtain ⟨a1N, ha1N, rfl⟩ := inN_of (bi_1 c3) (by omega)
    refine P_iload_n d_MD_side_13 rfl ?_
    refine P_if_lt 29 d_MD_side_14 (by decide) (fun c4 => ?_) (fun c4 => ?_)
    · refine P_ldc2 (v := (-9223372036854775808)) d_MD_side_29 L_MD_307 ?_
      exact P_lret d_MD_side_32 rfl (le_b rfl) (le_b rfl) ⟨⟨_, rfl⟩, hI1, FrM.of hF1 ⟨_, _, _, _, em⟩ ⟨_, _, _, _, s1⟩⟩
    · refine P_iload_n d_MD_side_17 rfl ?_
      refine P_iconst (v := 3) d_MD_side_18 (by decide) ?_
      refine P_icmp_gt 29 d_MD_side_19 (by decide) (fun c5 => ?_) (fun c5 => ?_)
      · refine P_ldc2 (v := (-9223372036854775808)) d_MD_side_29 L_MD_307 ?_
        exact P_lret d_MD_side_32 rfl (le_b rfl) (le_b rfl) ⟨⟨_, rfl⟩, hI1, FrM.of hF1 ⟨_, _, _, _, em⟩ ⟨_, _, _, _, s1⟩⟩
      · obtain ⟨a2N, ha2N, rfl⟩ := nI_of_gt (n := 3) c4 c5 rfl
        refine P_iload_n d_MD_side_22 rfl ?_
        refine P_callS (M := M_MD_side) (pc := 23) (as := [.int a3]) d_MD_side_23 co_MD_isThird L_MD_244 sm_MD_isThird (s_MD_isThird a3) rfl ⟨by decide, by decide⟩ ⟨by decide, by decide⟩ (by exact le_b rfl) ?_ _ rfl
        rintro _ u ⟨rfl, eu⟩
        subst u
        show PW _ _ _ _ _ _ (26, [(0, .ref 467), (1, .int (nI a1N)), (2, .int (nI a2N)), (3, .int a3)], [.int (bi (inN 3 a3))], w1)
        refine P_if_ne 33 d_MD_side_26 (by decide) (fun c7 => ?_) (fun c7 => ?_)
        · obtain ⟨a3N, ha3N, rfl⟩ := inN_of (bi_1 c7) (by omega)
          refine P_aload_n d_MD_side_33 rfl ?_
          refine P_aload_n d_MD_side_34 rfl ?_
          refine P_getf (i := 28) d_MD_side_35 ok_Model (by decide) L_MD_50 s1 rfl ?_
          refine P_iload_n d_MD_side_38 rfl ?_
          refine P_iload_n d_MD_side_39 rfl ?_
          refine P_iload_n d_MD_side_40 rfl ?_
          refine P_iconst (v := 1) d_MD_side_41 (by decide) ?_
          refine P_iaddN (a := a2N) (b := 1) d_MD_side_42 ?_
          show PW _ _ _ _ _ _ (43, [(0, .ref 467), (1, .int (nI a1N)), (2, .int (nI a2N)), (3, .int (nI a3N))], [.int (nI (a2N + 1)), .int (nI a2N), .int (nI a1N), .ref 479, .ref 467], w1)
          refine P_iconst (v := 4) d_MD_side_43 (by decide) ?_
          refine P_iremN (a := (a2N + 1)) (b := 4) d_MD_side_44 (by omega) (by omega) (by omega) ?_
          show PW _ _ _ _ _ _ (45, [(0, .ref 467), (1, .int (nI a1N)), (2, .int (nI a2N)), (3, .int (nI a3N))], [.int (nI ((a2N + 1) % 4)), .int (nI a2N), .int (nI a1N), .ref 479, .ref 467], w1)
          refine P_callV (M := M_MD_side) (pc := 45) (as := [.ref 479, .int (nI a1N), .int (nI a2N), .int (nI ((a2N + 1) % 4))]) (b := 467) d_MD_side_45 co_MD_joins ok_Model s1 L_MD_400 im_MD_joins se_MD_joins (s_MD_joins hI1 (by decide) kc_479 (by omega) a1N (by omega) a2N (by omega) ((a2N + 1) % 4) (by omega)) rfl ⟨by decide, by decide⟩ ⟨by decide, by decide⟩ (by exact le_b rfl) ?_ _ rfl
          rintro _ w8 ⟨rfl, hI8, hG8⟩
          have hF8 : Fr SN w w8 := Fr.tr hF1 hG8.1
          obtain ⟨th8, rm8, um8, sm8, em8⟩ := hG8.2 (nI tp) (nI qs) nq (nI un) ln nl sz at_ pl so vl wo fa fp lf lp ⟨_, _, _, _, s1⟩
          show PW _ _ _ _ _ _ (48, [(0, .ref 467), (1, .int (nI a1N)), (2, .int (nI a2N)), (3, .int (nI a3N))], [], w8)
          refine P_aload_n d_MD_side_48 rfl ?_
          refine P_getf (i := 28) d_MD_side_49 ok_Model (by decide) L_MD_50 em8 rfl ?_
          obtain ⟨f9, f9e⟩ := hI8.row (r := 479) (by decide) kc_479
          refine P_callS (M := M_MD_side) (pc := 52) (as := [.ref 479]) d_MD_side_52 co_MD_reduces L_MD_220 sm_MD_reduces (v_MD_reduces f9e (by decide) (by decide) (by decide)) rfl ⟨by decide, by decide⟩ ⟨by decide, by decide⟩ (by exact le_b rfl) ?_ _ rfl
          rintro _ w10 ⟨rfl, g10, e10⟩
          have s10 := w_s e10
          have hI10 : I w10 := hI8.setL e10 kc_479
          have hF10 : Fr SN w w10 := Fr.set hF8 e10 (SN_t (by omega))
          show PW _ _ _ _ _ _ (55, [(0, .ref 467), (1, .int (nI a1N)), (2, .int (nI a2N)), (3, .int (nI a3N))], [], w10)
          refine P_aload_n d_MD_side_55 rfl ?_
          refine P_getf (i := 28) d_MD_side_56 ok_Model (by decide) L_MD_50 ((w_n e10 _ (by decide)).trans em8) rfl ?_
          refine P_iload_n d_MD_side_59 rfl ?_
          refine P_lald (j := a3N) d_MD_side_60 s10 (ix_nI (by omega)) (by omega) ?_
          exact P_lret d_MD_side_61 rfl (le_b rfl) (le_b rfl) ⟨⟨_, rfl⟩, hI10, FrM.of hF10 ⟨_, _, _, _, em⟩ ⟨_, _, _, _, ((w_n e10 _ (by decide)).trans em8)⟩⟩
        · refine P_ldc2 (v := (-9223372036854775808)) d_MD_side_29 L_MD_307 ?_
          exact P_lret d_MD_side_32 rfl (le_b rfl) (le_b rfl) ⟨⟨_, rfl⟩, hI1, FrM.of hF1 ⟨_, _, _, _, em⟩ ⟨_, _, _, _, s1⟩⟩
theorem s_MD_turnOf {G : pG} {w : pW} (hI : I w) (a1 : Int32) (a2 : Int32) (a3 : Int32) : PM G M_MD_turnOf 2 0 0 [.ref 467, .int a1, .int a2, .int a3] w (fun r w' => (∃ v, r = some (.int v)) ∧ I w' ∧ FrM w w') := by
  refine PM_of pn_MD_turnOf (le_b rfl) ?_
  show PW _ _ _ _ _ _ (0, [(0, .ref 467), (1, .int a1), (2, .int a2), (3, .int a3)], [], w)
  obtain ⟨tp, qs, un, nq, ln, nl, sz, at_, pl, so, vl, wo, fa, fp, lf, lp, th, rm, um, sm, htp, hqs, hun, em⟩ := hI.md
  obtain ⟨fn, nm, np, en, hnm, e8, hnp, e9⟩ := hI.now
  refine P_aload_n d_MD_turnOf_0 rfl ?_
  refine P_iconst (v := 0) d_MD_turnOf_1 (by decide) ?_
  refine P_putG (i := 0) d_MD_turnOf_2 ok_Model (by decide) rfl L_MD_74 em (fun _ => rfl) (fun _ => rfl) (fun w1 e1 s1 n1 z1 => ?_)
  have hI1 : I w1 := hI.setM (show w1 = (_, wu _ 467 (mO (nI tp) (nI qs) nq (nI un) ln nl sz at_ pl so vl wo fa fp lf lp 0 rm um sm)) from e1) htp hqs hun
  have hF1 : Fr SN w w1 := Fr.set Fr.rf e1 (SN_t (by omega))
  show PW _ _ _ _ _ _ (5, [(0, .ref 467), (1, .int a1), (2, .int a2), (3, .int a3)], [], w1)
  refine P_aload_n d_MD_turnOf_5 rfl ?_
  refine P_iload_n d_MD_turnOf_6 rfl ?_
  refine P_callV (M := M_MD_turnOf) (pc := 7) (as := [.int a1]) (b := 467) d_MD_turnOf_7 co_MD_isPoint ok_Model s1 L_MD_247 im_MD_isPoint se_MD_isPoint (s_MD_isPoint a1 s1 htp hqs hun ((hF1.2 _ (SN_f (by omega))).trans en) hnm e8 hnp e9) rfl ⟨by decide, by decide⟩ ⟨by decide, by decide⟩ (by exact le_b rfl) ?_ _ rfl
  rintro _ u ⟨rfl, eu⟩
  subst u
  show PW _ _ _ _ _ _ (10, [(0, .ref 467), (1, .int a1), (2, .int a2), (3, .int a3)], [.int (bi (inN np a1))], w1)
  refine P_if_eq 29 d_MD_turnOf_10 (by decide) (fun c3 => ?_) (fun c3 => ?_)
  · refine P_bipush (v := (-3)) d_MD_turnOf_29 (by decide) ?_
    exact P_iret d_MD_turnOf_31 rfl (le_b rfl) (le_b rfl) ⟨⟨_, rfl⟩, hI1, FrM.of hF1 ⟨_, _, _, _, em⟩ ⟨_, _, _, _, s1⟩⟩
  · obtain ⟨a1N, ha1N, rfl⟩ := inN_of (bi_1 c3) (by omega)
    refine P_aload_n d_MD_turnOf_13 rfl ?_
    refine P_iload_n d_MD_turnOf_14 rfl ?_
    refine P_callV (M := M_MD_turnOf) (pc := 15) (as := [.int a2]) (b := 467) d_MD_turnOf_15 co_MD_isPoint ok_Model s1 L_MD_247 im_MD_isPoint se_MD_isPoint (s_MD_isPoint a2 s1 htp hqs hun ((hF1.2 _ (SN_f (by omega))).trans en) hnm e8 hnp e9) rfl ⟨by decide, by decide⟩ ⟨by decide, by decide⟩ (by exact le_b rfl) ?_ _ rfl
    rintro _ u ⟨rfl, eu⟩
    subst u
    show PW _ _ _ _ _ _ (18, [(0, .ref 467), (1, .int (nI a1N)), (2, .int a2), (3, .int a3)], [.int (bi (inN np a2))], w1)
    refine P_if_eq 29 d_MD_turnOf_18 (by decide) (fun c5 => ?_) (fun c5 => ?_)
    · refine P_bipush (v := (-3)) d_MD_turnOf_29 (by decide) ?_
      exact P_iret d_MD_turnOf_31 rfl (le_b rfl) (le_b rfl) ⟨⟨_, rfl⟩, hI1, FrM.of hF1 ⟨_, _, _, _, em⟩ ⟨_, _, _, _, s1⟩⟩
    · obtain ⟨a2N, ha2N, rfl⟩ := inN_of (bi_1 c5) (by omega)
      refine P_aload_n d_MD_turnOf_21 rfl ?_
      refine P_iload_n d_MD_turnOf_22 rfl ?_
      refine P_callV (M := M_MD_turnOf) (pc := 23) (as := [.int a3]) (b := 467) d_MD_turnOf_23 co_MD_isPoint ok_Model s1 L_MD_247 im_MD_isPoint se_MD_isPoint (s_MD_isPoint a3 s1 htp hqs hun ((hF1.2 _ (SN_f (by omega))).trans en) hnm e8 hnp e9) rfl ⟨by decide, by decide⟩ ⟨by decide, by decide⟩ (by exact le_b rfl) ?_ _ rfl
      rintro _ u ⟨rfl, eu⟩
      subst u
      show PW _ _ _ _ _ _ (26, [(0, .ref 467), (1, .int (nI a1N)), (2, .int (nI a2N)), (3, .int a3)], [.int (bi (inN np a3))], w1)
      refine P_if_ne 32 d_MD_turnOf_26 (by decide) (fun c7 => ?_) (fun c7 => ?_)
      · obtain ⟨a3N, ha3N, rfl⟩ := inN_of (bi_1 c7) (by omega)
        refine P_aload_n d_MD_turnOf_32 rfl ?_
        refine P_iload_n d_MD_turnOf_33 rfl ?_
        refine P_callV (M := M_MD_turnOf) (pc := 34) (as := [.int (nI a1N)]) (b := 467) d_MD_turnOf_34 co_MD_isFinite ok_Model s1 L_MD_453 im_MD_isFinite se_MD_isFinite (s_MD_isFinite a1N (by omega) s1 htp hqs hun ((hF1.2 _ (SN_f (by omega))).trans en) hnm e8 hnp e9) rfl ⟨by decide, by decide⟩ ⟨by decide, by decide⟩ (by exact le_b rfl) ?_ _ rfl
        rintro _ u ⟨⟨v8, rfl⟩, eu⟩
        subst u
        show PW _ _ _ _ _ _ (37, [(0, .ref 467), (1, .int (nI a1N)), (2, .int (nI a2N)), (3, .int (nI a3N))], [.int (bi v8)], w1)
        refine P_if_eq 56 d_MD_turnOf_37 (by decide) (fun c9 => ?_) (fun c9 => ?_)
        · refine P_bipush (v := (-2)) d_MD_turnOf_56 (by decide) ?_
          exact P_iret d_MD_turnOf_58 rfl (le_b rfl) (le_b rfl) ⟨⟨_, rfl⟩, hI1, FrM.of hF1 ⟨_, _, _, _, em⟩ ⟨_, _, _, _, s1⟩⟩
        · refine P_aload_n d_MD_turnOf_40 rfl ?_
          refine P_iload_n d_MD_turnOf_41 rfl ?_
          refine P_callV (M := M_MD_turnOf) (pc := 42) (as := [.int (nI a2N)]) (b := 467) d_MD_turnOf_42 co_MD_isFinite ok_Model s1 L_MD_453 im_MD_isFinite se_MD_isFinite (s_MD_isFinite a2N (by omega) s1 htp hqs hun ((hF1.2 _ (SN_f (by omega))).trans en) hnm e8 hnp e9) rfl ⟨by decide, by decide⟩ ⟨by decide, by decide⟩ (by exact le_b rfl) ?_ _ rfl
          rintro _ u ⟨⟨v10, rfl⟩, eu⟩
          subst u
          show PW _ _ _ _ _ _ (45, [(0, .ref 467), (1, .int (nI a1N)), (2, .int (nI a2N)), (3, .int (nI a3N))], [.int (bi v10)], w1)
          refine P_if_eq 56 d_MD_turnOf_45 (by decide) (fun c11 => ?_) (fun c11 => ?_)
          · refine P_bipush (v := (-2)) d_MD_turnOf_56 (by decide) ?_
            exact P_iret d_MD_turnOf_58 rfl (le_b rfl) (le_b rfl) ⟨⟨_, rfl⟩, hI1, FrM.of hF1 ⟨_, _, _, _, em⟩ ⟨_, _, _, _, s1⟩⟩
          · refine P_aload_n d_MD_turnOf_48 rfl ?_
            refine P_iload_n d_MD_turnOf_49 rfl ?_
            refine P_callV (M := M_MD_turnOf) (pc := 50) (as := [.int (nI a3N)]) (b := 467) d_MD_turnOf_50 co_MD_isFinite ok_Model s1 L_MD_453 im_MD_isFinite se_MD_isFinite (s_MD_isFinite a3N (by omega) s1 htp hqs hun ((hF1.2 _ (SN_f (by omega))).trans en) hnm e8 hnp e9) rfl ⟨by decide, by decide⟩ ⟨by decide, by decide⟩ (by exact le_b rfl) ?_ _ rfl
            rintro _ u ⟨⟨v12, rfl⟩, eu⟩
            subst u
            show PW _ _ _ _ _ _ (53, [(0, .ref 467), (1, .int (nI a1N)), (2, .int (nI a2N)), (3, .int (nI a3N))], [.int (bi v12)], w1)
            refine P_if_ne 59 d_MD_turnOf_53 (by decide) (fun c13 => ?_) (fun c13 => ?_)
            · refine P_aload_n d_MD_turnOf_59 rfl ?_
              refine P_aload_n d_MD_turnOf_60 rfl ?_
              refine P_getf (i := 28) d_MD_turnOf_61 ok_Model (by decide) L_MD_50 s1 rfl ?_
              refine P_iload_n d_MD_turnOf_64 rfl ?_
              refine P_iload_n d_MD_turnOf_65 rfl ?_
              refine P_callV (M := M_MD_turnOf) (pc := 66) (as := [.ref 479, .int (nI a1N), .int (nI a2N)]) (b := 467) d_MD_turnOf_66 co_MD_crossesPoints ok_Model s1 L_MD_341 im_MD_crossesPoints se_MD_crossesPoints (s_MD_crossesPoints hI1 (by decide) kc_479 (by omega) a1N (by omega) a2N (by omega)) rfl ⟨by decide, by decide⟩ ⟨by decide, by decide⟩ (by exact le_b rfl) ?_ _ rfl
              rintro _ w14 ⟨rfl, hI14, hG14⟩
              have hF14 : Fr SN w w14 := Fr.tr hF1 hG14.1
              obtain ⟨th14, rm14, um14, sm14, em14⟩ := hG14.2 (nI tp) (nI qs) nq (nI un) ln nl sz at_ pl so vl wo fa fp lf lp ⟨_, _, _, _, s1⟩
              show PW _ _ _ _ _ _ (69, [(0, .ref 467), (1, .int (nI a1N)), (2, .int (nI a2N)), (3, .int (nI a3N))], [], w14)
              refine P_aload_n d_MD_turnOf_69 rfl ?_
              refine P_getf (i := 28) d_MD_turnOf_70 ok_Model (by decide) L_MD_50 em14 rfl ?_
              refine P_iconst (v := 0) d_MD_turnOf_73 (by decide) ?_
              obtain ⟨f15, f15e⟩ := hI14.row (r := 479) (by decide) kc_479
              refine P_lald (j := 0) d_MD_turnOf_74 f15e ⟨by decide, by decide⟩ (by decide) ?_
              refine P_aload_n d_MD_turnOf_75 rfl ?_
              refine P_iload_n d_MD_turnOf_76 rfl ?_
              refine P_iconst (v := 0) d_MD_turnOf_77 (by decide) ?_
              refine P_callV (M := M_MD_turnOf) (pc := 78) (as := [.int (nI a3N), .int 0]) (b := 467) d_MD_turnOf_78 co_MD_pointOf ok_Model em14 L_MD_250 im_MD_pointOf se_MD_pointOf (s_MD_pointOf a3N (by omega) 0 (by decide) em14 htp hqs hun ((hF14.2 _ (SN_f (by omega))).trans en) hnm e8 hnp e9) rfl ⟨by decide, by decide⟩ ⟨by decide, by decide⟩ (by exact le_b rfl) ?_ _ rfl
              rintro _ u ⟨⟨v16, rfl⟩, eu⟩
              subst u
              show PW _ _ _ _ _ _ (81, [(0, .ref 467), (1, .int (nI a1N)), (2, .int (nI a2N)), (3, .int (nI a3N))], [.long v16, .long (f15 0)], w14)
              refine P_lmul d_MD_turnOf_81 ?_
              refine P_aload_n d_MD_turnOf_82 rfl ?_
              refine P_getf (i := 28) d_MD_turnOf_83 ok_Model (by decide) L_MD_50 em14 rfl ?_
              refine P_iconst (v := 1) d_MD_turnOf_86 (by decide) ?_
              refine P_lald (j := 1) d_MD_turnOf_87 f15e ⟨by decide, by decide⟩ (by decide) ?_
              refine P_aload_n d_MD_turnOf_88 rfl ?_
              refine P_iload_n d_MD_turnOf_89 rfl ?_
              refine P_iconst (v := 1) d_MD_turnOf_90 (by decide) ?_
              refine P_callV (M := M_MD_turnOf) (pc := 91) (as := [.int (nI a3N), .int 1]) (b := 467) d_MD_turnOf_91 co_MD_pointOf ok_Model em14 L_MD_250 im_MD_pointOf se_MD_pointOf (s_MD_pointOf a3N (by omega) 1 (by decide) em14 htp hqs hun ((hF14.2 _ (SN_f (by omega))).trans en) hnm e8 hnp e9) rfl ⟨by decide, by decide⟩ ⟨by decide, by decide⟩ (by exact le_b rfl) ?_ _ rfl
              rintro _ u ⟨⟨v17, rfl⟩, eu⟩
              subst u
              show PW _ _ _ _ _ _ (94, [(0, .ref 467), (1, .int (nI a1N)), (2, .int (nI a2N)), (3, .int (nI a3N))], [.long v17, .long (f15 1), .long ((f15 0) * v16)], w14)
              refine P_lmul d_MD_turnOf_94 ?_
              refine P_ladd d_MD_turnOf_95 ?_
              refine P_aload_n d_MD_turnOf_96 rfl ?_
              refine P_getf (i := 28) d_MD_turnOf_97 ok_Model (by decide) L_MD_50 em14 rfl ?_
              refine P_iconst (v := 2) d_MD_turnOf_100 (by decide) ?_
              refine P_lald (j := 2) d_MD_turnOf_101 f15e ⟨by decide, by decide⟩ (by decide) ?_
              refine P_aload_n d_MD_turnOf_102 rfl ?_
              refine P_iload_n d_MD_turnOf_103 rfl ?_
              refine P_iconst (v := 2) d_MD_turnOf_104 (by decide) ?_
              refine P_callV (M := M_MD_turnOf) (pc := 105) (as := [.int (nI a3N), .int 2]) (b := 467) d_MD_turnOf_105 co_MD_pointOf ok_Model em14 L_MD_250 im_MD_pointOf se_MD_pointOf (s_MD_pointOf a3N (by omega) 2 (by decide) em14 htp hqs hun ((hF14.2 _ (SN_f (by omega))).trans en) hnm e8 hnp e9) rfl ⟨by decide, by decide⟩ ⟨by decide, by decide⟩ (by exact le_b rfl) ?_ _ rfl
              rintro _ u ⟨⟨v18, rfl⟩, eu⟩
              subst u
              show PW _ _ _ _ _ _ (108, [(0, .ref 467), (1, .int (nI a1N)), (2, .int (nI a2N)), (3, .int (nI a3N))], [.long v18, .long (f15 2), .long (((f15 0) * v16) + ((f15 1) * v17))], w14)
              refine P_lmul d_MD_turnOf_108 ?_
              refine P_ladd d_MD_turnOf_109 ?_
              refine P_callS (M := M_MD_turnOf) (pc := 110) (as := [.long ((((f15 0) * v16) + ((f15 1) * v17)) + ((f15 2) * v18))]) d_MD_turnOf_110 co_Long_signum L_MD_311 sm_Long_signum (s_Long_signum ((((f15 0) * v16) + ((f15 1) * v17)) + ((f15 2) * v18))) rfl ⟨by decide, by decide⟩ ⟨by decide, by decide⟩ (by exact le_b rfl) ?_ _ rfl
              rintro _ u ⟨⟨v19, rfl⟩, eu⟩
              subst u
              show PW _ _ _ _ _ _ (113, [(0, .ref 467), (1, .int (nI a1N)), (2, .int (nI a2N)), (3, .int (nI a3N))], [.int v19], w14)
              exact P_iret d_MD_turnOf_113 rfl (le_b rfl) (le_b rfl) ⟨⟨_, rfl⟩, hI14, FrM.of hF14 ⟨_, _, _, _, em⟩ ⟨_, _, _, _, em14⟩⟩
            · refine P_bipush (v := (-2)) d_MD_turnOf_56 (by decide) ?_
              exact P_iret d_MD_turnOf_58 rfl (le_b rfl) (le_b rfl) ⟨⟨_, rfl⟩, hI1, FrM.of hF1 ⟨_, _, _, _, em⟩ ⟨_, _, _, _, s1⟩⟩
      · refine P_bipush (v := (-3)) d_MD_turnOf_29 (by decide) ?_
        exact P_iret d_MD_turnOf_31 rfl (le_b rfl) (le_b rfl) ⟨⟨_, rfl⟩, hI1, FrM.of hF1 ⟨_, _, _, _, em⟩ ⟨_, _, _, _, s1⟩⟩
