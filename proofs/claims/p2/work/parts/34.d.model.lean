/-! shapes: the reference (by program) -/
theorem s_MD_middle {G : pG} {w : pW} (hI : I w) (a1 : Int32) (a2 : Int32) (a3 : Int32) : PM G M_MD_middle 4 0 0 [.ref 467, .int a1, .int a2, .int a3] w (fun r w' => (∃ v, r = some (.long v)) ∧ I w' ∧ FrM w w') := by
  refine PM_of pn_MD_middle (le_b rfl) ?_
  show PW _ _ _ _ _ _ (0, [(0, .ref 467), (1, .int a1), (2, .int a2), (3, .int a3)], [], w)
  obtain ⟨tp, qs, un, nq, ln, nl, sz, at_, pl, so, vl, wo, fa, fp, lf, lp, th, rm, um, sm, htp, hqs, hun, em⟩ := hI.md
  obtain ⟨fn, nm, np, en, hnm, e8, hnp, e9⟩ := hI.now
  refine P_aload_n d_MD_middle_0 rfl ?_
  refine P_iconst (v := 0) d_MD_middle_1 (by decide) ?_
  refine P_putG (i := 0) d_MD_middle_2 ok_Model (by decide) rfl L_MD_74 em (fun _ => rfl) (fun _ => rfl) (fun w1 e1 s1 n1 z1 => ?_)
  have hI1 : I w1 := hI.setM (show w1 = (_, wu _ 467 (mO (nI tp) (nI qs) nq (nI un) ln nl sz at_ pl so vl wo fa fp lf lp 0 rm um sm)) from e1) htp hqs hun
  have hF1 : Fr SN w w1 := Fr.set Fr.rf e1 (SN_t (by omega))
  show PW _ _ _ _ _ _ (5, [(0, .ref 467), (1, .int a1), (2, .int a2), (3, .int a3)], [], w1)
  refine P_aload_n d_MD_middle_5 rfl ?_
  refine P_iload_n d_MD_middle_6 rfl ?_
  refine P_callV (M := M_MD_middle) (pc := 7) (as := [.int a1]) (b := 467) d_MD_middle_7 co_MD_isPoint ok_Model s1 L_MD_247 im_MD_isPoint se_MD_isPoint (s_MD_isPoint a1 s1 htp hqs hun ((hF1.2 _ (SN_f (by omega))).trans en) hnm e8 hnp e9) rfl ⟨by decide, by decide⟩ ⟨by decide, by decide⟩ (by exact le_b rfl) ?_ _ rfl
  rintro _ u ⟨rfl, eu⟩
  subst u
  show PW _ _ _ _ _ _ (10, [(0, .ref 467), (1, .int a1), (2, .int a2), (3, .int a3)], [.int (bi (inN np a1))], w1)
  refine P_if_eq 28 d_MD_middle_10 (by decide) (fun c3 => ?_) (fun c3 => ?_)
  · refine P_ldc2 (v := (-9223372036854775808)) d_MD_middle_28 L_MD_307 ?_
    exact P_lret d_MD_middle_31 rfl (le_b rfl) (le_b rfl) ⟨⟨_, rfl⟩, hI1, FrM.of hF1 ⟨_, _, _, _, em⟩ ⟨_, _, _, _, s1⟩⟩
  · obtain ⟨a1N, ha1N, rfl⟩ := inN_of (bi_1 c3) (by omega)
    refine P_aload_n d_MD_middle_13 rfl ?_
    refine P_iload_n d_MD_middle_14 rfl ?_
    refine P_callV (M := M_MD_middle) (pc := 15) (as := [.int a2]) (b := 467) d_MD_middle_15 co_MD_isPoint ok_Model s1 L_MD_247 im_MD_isPoint se_MD_isPoint (s_MD_isPoint a2 s1 htp hqs hun ((hF1.2 _ (SN_f (by omega))).trans en) hnm e8 hnp e9) rfl ⟨by decide, by decide⟩ ⟨by decide, by decide⟩ (by exact le_b rfl) ?_ _ rfl
    rintro _ u ⟨rfl, eu⟩
    subst u
    show PW _ _ _ _ _ _ (18, [(0, .ref 467), (1, .int (nI a1N)), (2, .int a2), (3, .int a3)], [.int (bi (inN np a2))], w1)
    refine P_if_eq 28 d_MD_middle_18 (by decide) (fun c5 => ?_) (fun c5 => ?_)
    · refine P_ldc2 (v := (-9223372036854775808)) d_MD_middle_28 L_MD_307 ?_
      exact P_lret d_MD_middle_31 rfl (le_b rfl) (le_b rfl) ⟨⟨_, rfl⟩, hI1, FrM.of hF1 ⟨_, _, _, _, em⟩ ⟨_, _, _, _, s1⟩⟩
    · obtain ⟨a2N, ha2N, rfl⟩ := inN_of (bi_1 c5) (by omega)
      refine P_iload_n d_MD_middle_21 rfl ?_
      refine P_callS (M := M_MD_middle) (pc := 22) (as := [.int a3]) d_MD_middle_22 co_MD_isThird L_MD_244 sm_MD_isThird (s_MD_isThird a3) rfl ⟨by decide, by decide⟩ ⟨by decide, by decide⟩ (by exact le_b rfl) ?_ _ rfl
      rintro _ u ⟨rfl, eu⟩
      subst u
      show PW _ _ _ _ _ _ (25, [(0, .ref 467), (1, .int (nI a1N)), (2, .int (nI a2N)), (3, .int a3)], [.int (bi (inN 3 a3))], w1)
      refine P_if_ne 32 d_MD_middle_25 (by decide) (fun c7 => ?_) (fun c7 => ?_)
      · obtain ⟨a3N, ha3N, rfl⟩ := inN_of (bi_1 c7) (by omega)
        refine P_aload_n d_MD_middle_32 rfl ?_
        refine P_iload_n d_MD_middle_33 rfl ?_
        refine P_callV (M := M_MD_middle) (pc := 34) (as := [.int (nI a1N)]) (b := 467) d_MD_middle_34 co_MD_isFinite ok_Model s1 L_MD_453 im_MD_isFinite se_MD_isFinite (s_MD_isFinite a1N (by omega) s1 htp hqs hun ((hF1.2 _ (SN_f (by omega))).trans en) hnm e8 hnp e9) rfl ⟨by decide, by decide⟩ ⟨by decide, by decide⟩ (by exact le_b rfl) ?_ _ rfl
        rintro _ u ⟨⟨v8, rfl⟩, eu⟩
        subst u
        show PW _ _ _ _ _ _ (37, [(0, .ref 467), (1, .int (nI a1N)), (2, .int (nI a2N)), (3, .int (nI a3N))], [.int (bi v8)], w1)
        refine P_if_eq 48 d_MD_middle_37 (by decide) (fun c9 => ?_) (fun c9 => ?_)
        · refine P_ldc2 (v := (-100000000000)) d_MD_middle_48 L_MD_309 ?_
          exact P_lret d_MD_middle_51 rfl (le_b rfl) (le_b rfl) ⟨⟨_, rfl⟩, hI1, FrM.of hF1 ⟨_, _, _, _, em⟩ ⟨_, _, _, _, s1⟩⟩
        · refine P_aload_n d_MD_middle_40 rfl ?_
          refine P_iload_n d_MD_middle_41 rfl ?_
          refine P_callV (M := M_MD_middle) (pc := 42) (as := [.int (nI a2N)]) (b := 467) d_MD_middle_42 co_MD_isFinite ok_Model s1 L_MD_453 im_MD_isFinite se_MD_isFinite (s_MD_isFinite a2N (by omega) s1 htp hqs hun ((hF1.2 _ (SN_f (by omega))).trans en) hnm e8 hnp e9) rfl ⟨by decide, by decide⟩ ⟨by decide, by decide⟩ (by exact le_b rfl) ?_ _ rfl
          rintro _ u ⟨⟨v10, rfl⟩, eu⟩
          subst u
          show PW _ _ _ _ _ _ (45, [(0, .ref 467), (1, .int (nI a1N)), (2, .int (nI a2N)), (3, .int (nI a3N))], [.int (bi v10)], w1)
          refine P_if_ne 52 d_MD_middle_45 (by decide) (fun c11 => ?_) (fun c11 => ?_)
          · refine P_aload_n d_MD_middle_52 rfl ?_
            refine P_iload_n d_MD_middle_53 rfl ?_
            refine P_iconst (v := 2) d_MD_middle_54 (by decide) ?_
            refine P_callV (M := M_MD_middle) (pc := 55) (as := [.int (nI a1N), .int 2]) (b := 467) d_MD_middle_55 co_MD_pointOf ok_Model s1 L_MD_250 im_MD_pointOf se_MD_pointOf (s_MD_pointOf a1N (by omega) 2 (by decide) s1 htp hqs hun ((hF1.2 _ (SN_f (by omega))).trans en) hnm e8 hnp e9) rfl ⟨by decide, by decide⟩ ⟨by decide, by decide⟩ (by exact le_b rfl) ?_ _ rfl
            rintro _ u ⟨⟨v12, rfl⟩, eu⟩
            subst u
            show PW _ _ _ _ _ _ (58, [(0, .ref 467), (1, .int (nI a1N)), (2, .int (nI a2N)), (3, .int (nI a3N))], [.long v12], w1)
            refine P_lstore d_MD_middle_58 (by decide) rfl ?_
            refine P_aload_n d_MD_middle_60 rfl ?_
            refine P_iload_n d_MD_middle_61 rfl ?_
            refine P_iconst (v := 2) d_MD_middle_62 (by decide) ?_
            refine P_callV (M := M_MD_middle) (pc := 63) (as := [.int (nI a2N), .int 2]) (b := 467) d_MD_middle_63 co_MD_pointOf ok_Model s1 L_MD_250 im_MD_pointOf se_MD_pointOf (s_MD_pointOf a2N (by omega) 2 (by decide) s1 htp hqs hun ((hF1.2 _ (SN_f (by omega))).trans en) hnm e8 hnp e9) rfl ⟨by decide, by decide⟩ ⟨by decide, by decide⟩ (by exact le_b rfl) ?_ _ rfl
            rintro _ u ⟨⟨v13, rfl⟩, eu⟩
            subst u
            show PW _ _ _ _ _ _ (66, [(0, .ref 467), (1, .int (nI a1N)), (2, .int (nI a2N)), (3, .int (nI a3N)), (4, .long v12)], [.long v13], w1)
            refine P_lstore d_MD_middle_66 (by decide) rfl ?_
            refine P_aload_n d_MD_middle_68 rfl ?_
            refine P_aload_n d_MD_middle_69 rfl ?_
            refine P_iload_n d_MD_middle_70 rfl ?_
            refine P_iconst (v := 0) d_MD_middle_71 (by decide) ?_
            refine P_callV (M := M_MD_middle) (pc := 72) (as := [.int (nI a1N), .int 0]) (b := 467) d_MD_middle_72 co_MD_pointOf ok_Model s1 L_MD_250 im_MD_pointOf se_MD_pointOf (s_MD_pointOf a1N (by omega) 0 (by decide) s1 htp hqs hun ((hF1.2 _ (SN_f (by omega))).trans en) hnm e8 hnp e9) rfl ⟨by decide, by decide⟩ ⟨by decide, by decide⟩ (by exact le_b rfl) ?_ _ rfl
            rintro _ u ⟨⟨v14, rfl⟩, eu⟩
            subst u
            show PW _ _ _ _ _ _ (75, [(0, .ref 467), (1, .int (nI a1N)), (2, .int (nI a2N)), (3, .int (nI a3N)), (4, .long v12), (6, .long v13)], [.long v14, .ref 467], w1)
            refine P_lload d_MD_middle_75 rfl ?_
            refine P_lmul d_MD_middle_77 ?_
            refine P_aload_n d_MD_middle_78 rfl ?_
            refine P_iload_n d_MD_middle_79 rfl ?_
            refine P_iconst (v := 0) d_MD_middle_80 (by decide) ?_
            refine P_callV (M := M_MD_middle) (pc := 81) (as := [.int (nI a2N), .int 0]) (b := 467) d_MD_middle_81 co_MD_pointOf ok_Model s1 L_MD_250 im_MD_pointOf se_MD_pointOf (s_MD_pointOf a2N (by omega) 0 (by decide) s1 htp hqs hun ((hF1.2 _ (SN_f (by omega))).trans en) hnm e8 hnp e9) rfl ⟨by decide, by decide⟩ ⟨by decide, by decide⟩ (by exact le_b rfl) ?_ _ rfl
            rintro _ u ⟨⟨v15, rfl⟩, eu⟩
            subst u
            show PW _ _ _ _ _ _ (84, [(0, .ref 467), (1, .int (nI a1N)), (2, .int (nI a2N)), (3, .int (nI a3N)), (4, .long v12), (6, .long v13)], [.long v15, .long (v14 * v13), .ref 467], w1)
            refine P_lload d_MD_middle_84 rfl ?_
            refine P_lmul d_MD_middle_86 ?_
            refine P_ladd d_MD_middle_87 ?_
            refine P_aload_n d_MD_middle_88 rfl ?_
            refine P_iload_n d_MD_middle_89 rfl ?_
            refine P_iconst (v := 1) d_MD_middle_90 (by decide) ?_
            refine P_callV (M := M_MD_middle) (pc := 91) (as := [.int (nI a1N), .int 1]) (b := 467) d_MD_middle_91 co_MD_pointOf ok_Model s1 L_MD_250 im_MD_pointOf se_MD_pointOf (s_MD_pointOf a1N (by omega) 1 (by decide) s1 htp hqs hun ((hF1.2 _ (SN_f (by omega))).trans en) hnm e8 hnp e9) rfl ⟨by decide, by decide⟩ ⟨by decide, by decide⟩ (by exact le_b rfl) ?_ _ rfl
            rintro _ u ⟨⟨v16, rfl⟩, eu⟩
            subst u
            show PW _ _ _ _ _ _ (94, [(0, .ref 467), (1, .int (nI a1N)), (2, .int (nI a2N)), (3, .int (nI a3N)), (4, .long v12), (6, .long v13)], [.long v16, .long ((v14 * v13) + (v15 * v12)), .ref 467], w1)
            refine P_lload d_MD_middle_94 rfl ?_
            refine P_lmul d_MD_middle_96 ?_
            refine P_aload_n d_MD_middle_97 rfl ?_
            refine P_iload_n d_MD_middle_98 rfl ?_
            refine P_iconst (v := 1) d_MD_middle_99 (by decide) ?_
            refine P_callV (M := M_MD_middle) (pc := 100) (as := [.int (nI a2N), .int 1]) (b := 467) d_MD_middle_100 co_MD_pointOf ok_Model s1 L_MD_250 im_MD_pointOf se_MD_pointOf (s_MD_pointOf a2N (by omega) 1 (by decide) s1 htp hqs hun ((hF1.2 _ (SN_f (by omega))).trans en) hnm e8 hnp e9) rfl ⟨by decide, by decide⟩ ⟨by decide, by decide⟩ (by exact le_b rfl) ?_ _ rfl
            rintro _ u ⟨⟨v17, rfl⟩, eu⟩
            subst u
            show PW _ _ _ _ _ _ (103, [(0, .ref 467), (1, .int (nI a1N)), (2, .int (nI a2N)), (3, .int (nI a3N)), (4, .long v12), (6, .long v13)], [.long v17, .long (v16 * v13), .long ((v14 * v13) + (v15 * v12)), .ref 467], w1)
            refine P_lload d_MD_middle_103 rfl ?_
            refine P_lmul d_MD_middle_105 ?_
            refine P_ladd d_MD_middle_106 ?_
            refine P_ldc2 (v := 2) d_MD_middle_107 L_MD_462 ?_
            refine P_lload d_MD_middle_110 rfl ?_
            refine P_lmul d_MD_middle_112 ?_
            refine P_lload d_MD_middle_113 rfl ?_
            refine P_lmul d_MD_middle_115 ?_
            refine P_callV (M := M_MD_middle) (pc := 116) (as := [.long ((v14 * v13) + (v15 * v12)), .long ((v16 * v13) + (v17 * v12)), .long ((2 * v12) * v13)]) (b := 467) d_MD_middle_116 co_MD_laysThree ok_Model s1 L_MD_179 im_MD_laysThree se_MD_laysThree (s_MD_laysThree hI1 ((v14 * v13) + (v15 * v12)) ((v16 * v13) + (v17 * v12)) ((2 * v12) * v13)) rfl ⟨by decide, by decide⟩ ⟨by decide, by decide⟩ (by exact le_b rfl) ?_ _ rfl
            rintro _ w18 ⟨rfl, hI18, hG18⟩
            have hF18 : Fr SN w w18 := Fr.tr hF1 hG18.1
            obtain ⟨th18, rm18, um18, sm18, em18⟩ := hG18.2 (nI tp) (nI qs) nq (nI un) ln nl sz at_ pl so vl wo fa fp lf lp ⟨_, _, _, _, s1⟩
            show PW _ _ _ _ _ _ (119, [(0, .ref 467), (1, .int (nI a1N)), (2, .int (nI a2N)), (3, .int (nI a3N)), (4, .long v12), (6, .long v13)], [], w18)
            refine P_aload_n d_MD_middle_119 rfl ?_
            refine P_getf (i := 28) d_MD_middle_120 ok_Model (by decide) L_MD_50 em18 rfl ?_
            refine P_iload_n d_MD_middle_123 rfl ?_
            obtain ⟨f19, f19e⟩ := hI18.row (r := 479) (by decide) kc_479
            refine P_lald (j := a3N) d_MD_middle_124 f19e (ix_nI (by omega)) (by omega) ?_
            exact P_lret d_MD_middle_125 rfl (le_b rfl) (le_b rfl) ⟨⟨_, rfl⟩, hI18, FrM.of hF18 ⟨_, _, _, _, em⟩ ⟨_, _, _, _, em18⟩⟩
          · refine P_ldc2 (v := (-100000000000)) d_MD_middle_48 L_MD_309 ?_
            exact P_lret d_MD_middle_51 rfl (le_b rfl) (le_b rfl) ⟨⟨_, rfl⟩, hI1, FrM.of hF1 ⟨_, _, _, _, em⟩ ⟨_, _, _, _, s1⟩⟩
      · refine P_ldc2 (v := (-9223372036854775808)) d_MD_middle_28 L_MD_307 ?_
        exact P_lret d_MD_middle_31 rfl (le_b rfl) (le_b rfl) ⟨⟨_, rfl⟩, hI1, FrM.of hF1 ⟨_, _, _, _, em⟩ ⟨_, _, _, _, s1⟩⟩
theorem s_MD_partner {G : pG} {w : pW} (hI : I w) (a1 : Int32) : PM G M_MD_partner 4 0 0 [.ref 467, .int a1] w (fun r w' => (∃ v, r = some (.int v)) ∧ I w' ∧ FrM w w') := by
  refine PM_of pn_MD_partner (le_b rfl) ?_
  show PW _ _ _ _ _ _ (0, [(0, .ref 467), (1, .int a1)], [], w)
  obtain ⟨tp, qs, un, nq, ln, nl, sz, at_, pl, so, vl, wo, fa, fp, lf, lp, th, rm, um, sm, htp, hqs, hun, em⟩ := hI.md
  obtain ⟨fn, nm, np, en, hnm, e8, hnp, e9⟩ := hI.now
  refine P_aload_n d_MD_partner_0 rfl ?_
  refine P_iconst (v := 0) d_MD_partner_1 (by decide) ?_
  refine P_putG (i := 0) d_MD_partner_2 ok_Model (by decide) rfl L_MD_74 em (fun _ => rfl) (fun _ => rfl) (fun w1 e1 s1 n1 z1 => ?_)
  have hI1 : I w1 := hI.setM (show w1 = (_, wu _ 467 (mO (nI tp) (nI qs) nq (nI un) ln nl sz at_ pl so vl wo fa fp lf lp 0 rm um sm)) from e1) htp hqs hun
  have hF1 : Fr SN w w1 := Fr.set Fr.rf e1 (SN_t (by omega))
  show PW _ _ _ _ _ _ (5, [(0, .ref 467), (1, .int a1)], [], w1)
  refine P_aload_n d_MD_partner_5 rfl ?_
  refine P_iload_n d_MD_partner_6 rfl ?_
  refine P_callV (M := M_MD_partner) (pc := 7) (as := [.int a1]) (b := 467) d_MD_partner_7 co_MD_isMap ok_Model s1 L_MD_241 im_MD_isMap se_MD_isMap (s_MD_isMap a1 s1 htp hqs hun ((hF1.2 _ (SN_f (by omega))).trans en) hnm e8 hnp e9) rfl ⟨by decide, by decide⟩ ⟨by decide, by decide⟩ (by exact le_b rfl) ?_ _ rfl
  rintro _ u ⟨rfl, eu⟩
  subst u
  show PW _ _ _ _ _ _ (10, [(0, .ref 467), (1, .int a1)], [.int (bi (inN nm a1))], w1)
  refine P_if_ne 15 d_MD_partner_10 (by decide) (fun c3 => ?_) (fun c3 => ?_)
  · obtain ⟨a1N, ha1N, rfl⟩ := inN_of (bi_1 c3) (by omega)
    refine P_aload_n d_MD_partner_15 rfl ?_
    refine P_iload_n d_MD_partner_16 rfl ?_
    refine P_callV (M := M_MD_partner) (pc := 17) (as := [.int (nI a1N)]) (b := 467) d_MD_partner_17 co_MD_laysInverse ok_Model s1 L_MD_280 im_MD_laysInverse se_MD_laysInverse (s_MD_laysInverse hI1 a1N (by omega)) rfl ⟨by decide, by decide⟩ ⟨by decide, by decide⟩ (by exact le_b rfl) ?_ _ rfl
    rintro _ w4 ⟨rfl, hI4, hG4⟩
    have hF4 : Fr SN w w4 := Fr.tr hF1 hG4.1
    obtain ⟨th4, rm4, um4, sm4, em4⟩ := hG4.2 (nI tp) (nI qs) nq (nI un) ln nl sz at_ pl so vl wo fa fp lf lp ⟨_, _, _, _, s1⟩
    show PW _ _ _ _ _ _ (20, [(0, .ref 467), (1, .int (nI a1N))], [], w4)
    refine P_iconst (v := 0) d_MD_partner_20 (by decide) ?_
    refine P_istore_n d_MD_partner_21 (by decide) rfl ?_
    refine PW_ind (σ := pW) (nm) (fun jj ss => I (ss) ∧ Fr SN w (ss) ∧ MS (nI tp) (nI qs) nq (nI un) ln nl sz at_ pl so vl wo fa fp lf lp ((ss).2 467)) (fun jj ss => (22, [(0, .ref 467), (1, .int (nI a1N)), (2, .int (nI jj))], [], ss)) ?_ ?_ 0 (w4) (by omega) ⟨hI4, hF4, ⟨_, _, _, _, em4⟩⟩
    · rintro uj5 ⟨hIj5, hFj5, ⟨thj5, rmj5, umj5, smj5, emj5⟩⟩
      show PW _ _ _ _ _ _ (22, [(0, .ref 467), (1, .int (nI a1N)), (2, .int (nI nm))], [], uj5)
      refine P_iload_n d_MD_partner_22 rfl ?_
      refine P_i2lN (n1 := nm) d_MD_partner_23 (by omega) ?_
      refine P_aload_n d_MD_partner_24 rfl ?_
      refine P_getf (i := 7) d_MD_partner_25 ok_Model (by decide) L_MD_21 emj5 rfl ?_
      refine P_sipush (v := 168) d_MD_partner_28 (by decide) ?_
      refine P_lald (j := 168) d_MD_partner_31 ((hFj5.2 _ (SN_f (by omega))).trans en) ⟨by decide, by decide⟩ (by decide) ?_
      rw [e8]
      show PW _ _ _ _ _ _ (32, [(0, .ref 467), (1, .int (nI a1N)), (2, .int (nI nm))], [.long (lN nm), .long (lN nm)], uj5)
      refine P_lcmpN (a := nm) (b := nm) d_MD_partner_32 (by omega) (by omega) ?_
      show PW _ _ _ _ _ _ (33, [(0, .ref 467), (1, .int (nI a1N)), (2, .int (nI nm))], [.int (cN nm nm)], uj5)
      refine P_if_ge 52 d_MD_partner_33 (by decide) (fun _ => ?_) (fun h => absurd (cN_self nm) h)
      refine P_bipush (v := (-2)) d_MD_partner_52 (by decide) ?_
      exact P_iret d_MD_partner_54 rfl (le_b rfl) (le_b rfl) ⟨⟨_, rfl⟩, hIj5, FrM.of hFj5 ⟨_, _, _, _, em⟩ ⟨_, _, _, _, emj5⟩⟩
    · rintro j5 uj5 hj5 ⟨hIj5, hFj5, ⟨thj5, rmj5, umj5, smj5, emj5⟩⟩ kkj5
      show PW _ _ _ _ _ _ (22, [(0, .ref 467), (1, .int (nI a1N)), (2, .int (nI j5))], [], uj5)
      refine P_iload_n d_MD_partner_22 rfl ?_
      refine P_i2lN (n1 := j5) d_MD_partner_23 (by omega) ?_
      refine P_aload_n d_MD_partner_24 rfl ?_
      refine P_getf (i := 7) d_MD_partner_25 ok_Model (by decide) L_MD_21 emj5 rfl ?_
      refine P_sipush (v := 168) d_MD_partner_28 (by decide) ?_
      refine P_lald (j := 168) d_MD_partner_31 ((hFj5.2 _ (SN_f (by omega))).trans en) ⟨by decide, by decide⟩ (by decide) ?_
      rw [e8]
      show PW _ _ _ _ _ _ (32, [(0, .ref 467), (1, .int (nI a1N)), (2, .int (nI j5))], [.long (lN nm), .long (lN j5)], uj5)
      refine P_lcmpN (a := j5) (b := nm) d_MD_partner_32 (by omega) (by omega) ?_
      show PW _ _ _ _ _ _ (33, [(0, .ref 467), (1, .int (nI a1N)), (2, .int (nI j5))], [.int (cN j5 nm)], uj5)
      refine P_if_ge 52 d_MD_partner_33 (by decide) (fun h => absurd h (cN_ltF (by omega))) (fun _ => ?_)
      refine P_aload_n d_MD_partner_36 rfl ?_
      refine P_iload_n d_MD_partner_37 rfl ?_
      obtain ⟨f6, f6e⟩ := hIj5.row (r := 476) (by decide) kc_476
      refine P_callV (M := M_MD_partner) (pc := 38) (as := [.int (nI j5)]) (b := 467) d_MD_partner_38 co_MD_isLike ok_Model emj5 L_MD_331 im_MD_isLike se_MD_isLike (s_MD_isLike j5 (by omega) emj5 htp hqs hun ((hFj5.2 _ (SN_f (by omega))).trans en) hnm e8 hnp e9 f6e) rfl ⟨by decide, by decide⟩ ⟨by decide, by decide⟩ (by exact le_b rfl) ?_ _ rfl
      rintro _ u ⟨⟨v7, rfl⟩, eu⟩
      subst u
      show PW _ _ _ _ _ _ (41, [(0, .ref 467), (1, .int (nI a1N)), (2, .int (nI j5))], [.int (bi v7)], uj5)
      refine P_if_eq 46 d_MD_partner_41 (by decide) (fun c8 => ?_) (fun c8 => ?_)
      · refine P_iinc (v := nI (j5 + 1)) d_MD_partner_46 (by decide) rfl (nI_add j5 1) rfl ?_
        refine P_goto 22 d_MD_partner_49 (by decide) ?_
        exact kkj5 (uj5) ⟨hIj5, hFj5, ⟨_, _, _, _, emj5⟩⟩
      · refine P_iload_n d_MD_partner_44 rfl ?_
        exact P_iret d_MD_partner_45 rfl (le_b rfl) (le_b rfl) ⟨⟨_, rfl⟩, hIj5, FrM.of hFj5 ⟨_, _, _, _, em⟩ ⟨_, _, _, _, emj5⟩⟩
  · refine P_iconst (v := (-1)) d_MD_partner_13 (by decide) ?_
    exact P_iret d_MD_partner_14 rfl (le_b rfl) (le_b rfl) ⟨⟨_, rfl⟩, hI1, FrM.of hF1 ⟨_, _, _, _, em⟩ ⟨_, _, _, _, s1⟩⟩
theorem s_MD_kinds {G : pG} {w : pW} (hI : I w) (a1 : Int32) : PM G M_MD_kinds 2 0 0 [.ref 467, .int a1] w (fun r w' => (∃ v, r = some (.int v)) ∧ I w' ∧ FrM w w') := by
  refine PM_of pn_MD_kinds (le_b rfl) ?_
  show PW _ _ _ _ _ _ (0, [(0, .ref 467), (1, .int a1)], [], w)
  obtain ⟨tp, qs, un, nq, ln, nl, sz, at_, pl, so, vl, wo, fa, fp, lf, lp, th, rm, um, sm, htp, hqs, hun, em⟩ := hI.md
  obtain ⟨fn, nm, np, en, hnm, e8, hnp, e9⟩ := hI.now
  refine P_aload_n d_MD_kinds_0 rfl ?_
  refine P_iconst (v := 0) d_MD_kinds_1 (by decide) ?_
  refine P_putG (i := 0) d_MD_kinds_2 ok_Model (by decide) rfl L_MD_74 em (fun _ => rfl) (fun _ => rfl) (fun w1 e1 s1 n1 z1 => ?_)
  have hI1 : I w1 := hI.setM (show w1 = (_, wu _ 467 (mO (nI tp) (nI qs) nq (nI un) ln nl sz at_ pl so vl wo fa fp lf lp 0 rm um sm)) from e1) htp hqs hun
  have hF1 : Fr SN w w1 := Fr.set Fr.rf e1 (SN_t (by omega))
  show PW _ _ _ _ _ _ (5, [(0, .ref 467), (1, .int a1)], [], w1)
  refine P_iload_n d_MD_kinds_5 rfl ?_
  refine P_if_lt 14 d_MD_kinds_6 (by decide) (fun c2 => ?_) (fun c2 => ?_)
  · refine P_iconst (v := (-1)) d_MD_kinds_14 (by decide) ?_
    exact P_iret d_MD_kinds_15 rfl (le_b rfl) (le_b rfl) ⟨⟨_, rfl⟩, hI1, FrM.of hF1 ⟨_, _, _, _, em⟩ ⟨_, _, _, _, s1⟩⟩
  · refine P_iload_n d_MD_kinds_9 rfl ?_
    refine P_iconst (v := 5) d_MD_kinds_10 (by decide) ?_
    refine P_icmp_le 16 d_MD_kinds_11 (by decide) (fun c3 => ?_) (fun c3 => ?_)
    · obtain ⟨a1N, ha1N, rfl⟩ := nI_of_le (n := 5) c2 c3 rfl
      refine P_iconst (v := 0) d_MD_kinds_16 (by decide) ?_
      refine P_istore_n d_MD_kinds_17 (by decide) rfl ?_
      refine P_iconst (v := 0) d_MD_kinds_18 (by decide) ?_
      refine P_istore_n d_MD_kinds_19 (by decide) rfl ?_
      refine PW_ind (σ := Int32 × pW) (nm) (fun jj ss => I (ss.2) ∧ Fr SN w (ss.2) ∧ MS (nI tp) (nI qs) nq (nI un) ln nl sz at_ pl so vl wo fa fp lf lp ((ss.2).2 467)) (fun jj ss => (20, [(0, .ref 467), (1, .int (nI a1N)), (2, .int ss.1), (3, .int (nI jj))], [], ss.2)) ?_ ?_ 0 (0, w1) (by omega) ⟨hI1, hF1, ⟨_, _, _, _, s1⟩⟩
      · rintro ⟨j4_2, uj4⟩ ⟨hIj4, hFj4, ⟨thj4, rmj4, umj4, smj4, emj4⟩⟩
        show PW _ _ _ _ _ _ (20, [(0, .ref 467), (1, .int (nI a1N)), (2, .int j4_2), (3, .int (nI nm))], [], uj4)
        refine P_iload_n d_MD_kinds_20 rfl ?_
        refine P_i2lN (n1 := nm) d_MD_kinds_21 (by omega) ?_
        refine P_aload_n d_MD_kinds_22 rfl ?_
        refine P_getf (i := 7) d_MD_kinds_23 ok_Model (by decide) L_MD_21 emj4 rfl ?_
        refine P_sipush (v := 168) d_MD_kinds_26 (by decide) ?_
        refine P_lald (j := 168) d_MD_kinds_29 ((hFj4.2 _ (SN_f (by omega))).trans en) ⟨by decide, by decide⟩ (by decide) ?_
        rw [e8]
        show PW _ _ _ _ _ _ (30, [(0, .ref 467), (1, .int (nI a1N)), (2, .int j4_2), (3, .int (nI nm))], [.long (lN nm), .long (lN nm)], uj4)
        refine P_lcmpN (a := nm) (b := nm) d_MD_kinds_30 (by omega) (by omega) ?_
        show PW _ _ _ _ _ _ (31, [(0, .ref 467), (1, .int (nI a1N)), (2, .int j4_2), (3, .int (nI nm))], [.int (cN nm nm)], uj4)
        refine P_if_ge 65 d_MD_kinds_31 (by decide) (fun _ => ?_) (fun h => absurd (cN_self nm) h)
        refine P_iload_n d_MD_kinds_65 rfl ?_
        exact P_iret d_MD_kinds_66 rfl (le_b rfl) (le_b rfl) ⟨⟨_, rfl⟩, hIj4, FrM.of hFj4 ⟨_, _, _, _, em⟩ ⟨_, _, _, _, emj4⟩⟩
      · rintro j4 ⟨j4_2, uj4⟩ hj4 ⟨hIj4, hFj4, ⟨thj4, rmj4, umj4, smj4, emj4⟩⟩ kkj4
        show PW _ _ _ _ _ _ (20, [(0, .ref 467), (1, .int (nI a1N)), (2, .int j4_2), (3, .int (nI j4))], [], uj4)
        refine P_iload_n d_MD_kinds_20 rfl ?_
        refine P_i2lN (n1 := j4) d_MD_kinds_21 (by omega) ?_
        refine P_aload_n d_MD_kinds_22 rfl ?_
        refine P_getf (i := 7) d_MD_kinds_23 ok_Model (by decide) L_MD_21 emj4 rfl ?_
        refine P_sipush (v := 168) d_MD_kinds_26 (by decide) ?_
        refine P_lald (j := 168) d_MD_kinds_29 ((hFj4.2 _ (SN_f (by omega))).trans en) ⟨by decide, by decide⟩ (by decide) ?_
        rw [e8]
        show PW _ _ _ _ _ _ (30, [(0, .ref 467), (1, .int (nI a1N)), (2, .int j4_2), (3, .int (nI j4))], [.long (lN nm), .long (lN j4)], uj4)
        refine P_lcmpN (a := j4) (b := nm) d_MD_kinds_30 (by omega) (by omega) ?_
        show PW _ _ _ _ _ _ (31, [(0, .ref 467), (1, .int (nI a1N)), (2, .int j4_2), (3, .int (nI j4))], [.int (cN j4 nm)], uj4)
        refine P_if_ge 65 d_MD_kinds_31 (by decide) (fun h => absurd h (cN_ltF (by omega))) (fun _ => ?_)
        refine P_aload_n d_MD_kinds_34 rfl ?_
        refine P_aload_n d_MD_kinds_35 rfl ?_
        refine P_getf (i := 25) d_MD_kinds_36 ok_Model (by decide) L_MD_41 emj4 rfl ?_
        refine P_iload_n d_MD_kinds_39 rfl ?_
        refine P_callV (M := M_MD_kinds) (pc := 40) (as := [.ref 476, .int (nI j4)]) (b := 467) d_MD_kinds_40 co_MD_takes ok_Model emj4 L_MD_274 im_MD_takes se_MD_takes (s_MD_takes hIj4 (by decide) kc_476 (by omega) j4 (by omega)) rfl ⟨by decide, by decide⟩ ⟨by decide, by decide⟩ (by exact le_b rfl) ?_ _ rfl
        rintro _ w5 ⟨rfl, hI5, hG5⟩
        have hF5 : Fr SN w w5 := Fr.tr hFj4 hG5.1
        obtain ⟨th5, rm5, um5, sm5, em5⟩ := hG5.2 (nI tp) (nI qs) nq (nI un) ln nl sz at_ pl so vl wo fa fp lf lp ⟨_, _, _, _, emj4⟩
        show PW _ _ _ _ _ _ (43, [(0, .ref 467), (1, .int (nI a1N)), (2, .int j4_2), (3, .int (nI j4))], [], w5)
        refine P_iload_n d_MD_kinds_43 rfl ?_
        refine P_aload_n d_MD_kinds_44 rfl ?_
        obtain ⟨f6, f6e⟩ := hI5.row (r := 476) (by decide) kc_476
        refine P_callV (M := M_MD_kinds) (pc := 45) (as := []) (b := 467) d_MD_kinds_45 co_MD_kindOfNine ok_Model em5 L_MD_323 im_MD_kindOfNine se_MD_kindOfNine (s_MD_kindOfNine em5 htp hqs hun f6e) rfl ⟨by decide, by decide⟩ ⟨by decide, by decide⟩ (by exact le_b rfl) ?_ _ rfl
        rintro _ u ⟨⟨v7, rfl⟩, eu⟩
        subst u
        show PW _ _ _ _ _ _ (48, [(0, .ref 467), (1, .int (nI a1N)), (2, .int j4_2), (3, .int (nI j4))], [.int v7, .int j4_2], w5)
        refine P_iload_n d_MD_kinds_48 rfl ?_
        refine P_icmp_ne 56 d_MD_kinds_49 (by decide) (fun c8 => ?_) (fun c8 => ?_)
        · refine P_iconst (v := 0) d_MD_kinds_56 (by decide) ?_
          refine P_iadd d_MD_kinds_57 ?_
          refine P_istore_n d_MD_kinds_58 (by decide) rfl ?_
          refine P_iinc (v := nI (j4 + 1)) d_MD_kinds_59 (by decide) rfl (nI_add j4 1) rfl ?_
          refine P_goto 20 d_MD_kinds_62 (by decide) ?_
          exact kkj4 (j4_2 + 0, w5) ⟨hI5, hF5, ⟨_, _, _, _, em5⟩⟩
        · refine P_iconst (v := 1) d_MD_kinds_52 (by decide) ?_
          refine P_goto 57 d_MD_kinds_53 (by decide) ?_
          refine P_iadd d_MD_kinds_57 ?_
          refine P_istore_n d_MD_kinds_58 (by decide) rfl ?_
          refine P_iinc (v := nI (j4 + 1)) d_MD_kinds_59 (by decide) rfl (nI_add j4 1) rfl ?_
          refine P_goto 20 d_MD_kinds_62 (by decide) ?_
          exact kkj4 (j4_2 + 1, w5) ⟨hI5, hF5, ⟨_, _, _, _, em5⟩⟩
    · refine P_iconst (v := (-1)) d_MD_kinds_14 (by decide) ?_
      exact P_iret d_MD_kinds_15 rfl (le_b rfl) (le_b rfl) ⟨⟨_, rfl⟩, hI1, FrM.of hF1 ⟨_, _, _, _, em⟩ ⟨_, _, _, _, s1⟩⟩
theorem s_MD_cornerBy {G : pG} {w : pW} (hI : I w) (a1 : Int32) (a2 : Int32) (a3 : Int32) (a4 : Int32) : PM G M_MD_cornerBy 6 0 0 [.ref 467, .int a1, .int a2, .int a3, .int a4] w (fun r w' => (∃ v, r = some (.long v)) ∧ I w' ∧ FrM w w') := by
  refine PM_of pn_MD_cornerBy (le_b rfl) ?_
  show PW _ _ _ _ _ _ (0, [(0, .ref 467), (1, .int a1), (2, .int a2), (3, .int a3), (4, .int a4)], [], w)
  obtain ⟨tp, qs, un, nq, ln, nl, sz, at_, pl, so, vl, wo, fa, fp, lf, lp, th, rm, um, sm, htp, hqs, hun, em⟩ := hI.md
  obtain ⟨fn, nm, np, en, hnm, e8, hnp, e9⟩ := hI.now
  refine P_aload_n d_MD_cornerBy_0 rfl ?_
  refine P_iconst (v := 0) d_MD_cornerBy_1 (by decide) ?_
  refine P_putG (i := 0) d_MD_cornerBy_2 ok_Model (by decide) rfl L_MD_74 em (fun _ => rfl) (fun _ => rfl) (fun w1 e1 s1 n1 z1 => ?_)
  have hI1 : I w1 := hI.setM (show w1 = (_, wu _ 467 (mO (nI tp) (nI qs) nq (nI un) ln nl sz at_ pl so vl wo fa fp lf lp 0 rm um sm)) from e1) htp hqs hun
  have hF1 : Fr SN w w1 := Fr.set Fr.rf e1 (SN_t (by omega))
  show PW _ _ _ _ _ _ (5, [(0, .ref 467), (1, .int a1), (2, .int a2), (3, .int a3), (4, .int a4)], [], w1)
  refine P_aload_n d_MD_cornerBy_5 rfl ?_
  refine P_iload_n d_MD_cornerBy_6 rfl ?_
  refine P_callV (M := M_MD_cornerBy) (pc := 7) (as := [.int a1]) (b := 467) d_MD_cornerBy_7 co_MD_isMap ok_Model s1 L_MD_241 im_MD_isMap se_MD_isMap (s_MD_isMap a1 s1 htp hqs hun ((hF1.2 _ (SN_f (by omega))).trans en) hnm e8 hnp e9) rfl ⟨by decide, by decide⟩ ⟨by decide, by decide⟩ (by exact le_b rfl) ?_ _ rfl
  rintro _ u ⟨rfl, eu⟩
  subst u
  show PW _ _ _ _ _ _ (10, [(0, .ref 467), (1, .int a1), (2, .int a2), (3, .int a3), (4, .int a4)], [.int (bi (inN nm a1))], w1)
  refine P_if_eq 38 d_MD_cornerBy_10 (by decide) (fun c3 => ?_) (fun c3 => ?_)
  · refine P_ldc2 (v := (-9223372036854775808)) d_MD_cornerBy_38 L_MD_307 ?_
    exact P_lret d_MD_cornerBy_41 rfl (le_b rfl) (le_b rfl) ⟨⟨_, rfl⟩, hI1, FrM.of hF1 ⟨_, _, _, _, em⟩ ⟨_, _, _, _, s1⟩⟩
  · obtain ⟨a1N, ha1N, rfl⟩ := inN_of (bi_1 c3) (by omega)
    refine P_aload_n d_MD_cornerBy_13 rfl ?_
    refine P_iload_n d_MD_cornerBy_14 rfl ?_
    refine P_callV (M := M_MD_cornerBy) (pc := 15) (as := [.int a2]) (b := 467) d_MD_cornerBy_15 co_MD_isQuad ok_Model s1 L_MD_238 im_MD_isQuad se_MD_isQuad (s_MD_isQuad a2 s1 htp hqs hun) rfl ⟨by decide, by decide⟩ ⟨by decide, by decide⟩ (by exact le_b rfl) ?_ _ rfl
    rintro _ u ⟨rfl, eu⟩
    subst u
    show PW _ _ _ _ _ _ (18, [(0, .ref 467), (1, .int (nI a1N)), (2, .int a2), (3, .int a3), (4, .int a4)], [.int (bi (inN qs a2))], w1)
    refine P_if_eq 38 d_MD_cornerBy_18 (by decide) (fun c5 => ?_) (fun c5 => ?_)
    · refine P_ldc2 (v := (-9223372036854775808)) d_MD_cornerBy_38 L_MD_307 ?_
      exact P_lret d_MD_cornerBy_41 rfl (le_b rfl) (le_b rfl) ⟨⟨_, rfl⟩, hI1, FrM.of hF1 ⟨_, _, _, _, em⟩ ⟨_, _, _, _, s1⟩⟩
    · obtain ⟨a2N, ha2N, rfl⟩ := inN_of (bi_1 c5) (by omega)
      refine P_iload_n d_MD_cornerBy_21 rfl ?_
      refine P_if_lt 38 d_MD_cornerBy_22 (by decide) (fun c6 => ?_) (fun c6 => ?_)
      · refine P_ldc2 (v := (-9223372036854775808)) d_MD_cornerBy_38 L_MD_307 ?_
        exact P_lret d_MD_cornerBy_41 rfl (le_b rfl) (le_b rfl) ⟨⟨_, rfl⟩, hI1, FrM.of hF1 ⟨_, _, _, _, em⟩ ⟨_, _, _, _, s1⟩⟩
      · refine P_iload_n d_MD_cornerBy_25 rfl ?_
        refine P_iconst (v := 3) d_MD_cornerBy_26 (by decide) ?_
        refine P_icmp_gt 38 d_MD_cornerBy_27 (by decide) (fun c7 => ?_) (fun c7 => ?_)
        · refine P_ldc2 (v := (-9223372036854775808)) d_MD_cornerBy_38 L_MD_307 ?_
          exact P_lret d_MD_cornerBy_41 rfl (le_b rfl) (le_b rfl) ⟨⟨_, rfl⟩, hI1, FrM.of hF1 ⟨_, _, _, _, em⟩ ⟨_, _, _, _, s1⟩⟩
        · obtain ⟨a3N, ha3N, rfl⟩ := nI_of_gt (n := 3) c6 c7 rfl
          refine P_iload d_MD_cornerBy_30 rfl ?_
          refine P_callS (M := M_MD_cornerBy) (pc := 32) (as := [.int a4]) d_MD_cornerBy_32 co_MD_isThird L_MD_244 sm_MD_isThird (s_MD_isThird a4) rfl ⟨by decide, by decide⟩ ⟨by decide, by decide⟩ (by exact le_b rfl) ?_ _ rfl
          rintro _ u ⟨rfl, eu⟩
          subst u
          show PW _ _ _ _ _ _ (35, [(0, .ref 467), (1, .int (nI a1N)), (2, .int (nI a2N)), (3, .int (nI a3N)), (4, .int a4)], [.int (bi (inN 3 a4))], w1)
          refine P_if_ne 42 d_MD_cornerBy_35 (by decide) (fun c9 => ?_) (fun c9 => ?_)
          · obtain ⟨a4N, ha4N, rfl⟩ := inN_of (bi_1 c9) (by omega)
            refine P_aload_n d_MD_cornerBy_42 rfl ?_
            refine P_iload_n d_MD_cornerBy_43 rfl ?_
            refine P_iload_n d_MD_cornerBy_44 rfl ?_
            refine P_iload_n d_MD_cornerBy_45 rfl ?_
            refine P_callV (M := M_MD_cornerBy) (pc := 46) (as := [.int (nI a1N), .int (nI a2N), .int (nI a3N)]) (b := 467) d_MD_cornerBy_46 co_MD_laysCorner ok_Model s1 L_MD_477 im_MD_laysCorner se_MD_laysCorner (s_MD_laysCorner hI1 a1N (by omega) a2N (by omega) a3N (by omega)) rfl ⟨by decide, by decide⟩ ⟨by decide, by decide⟩ (by exact le_b rfl) ?_ _ rfl
            rintro _ w10 ⟨rfl, hI10, hG10⟩
            have hF10 : Fr SN w w10 := Fr.tr hF1 hG10.1
            obtain ⟨th10, rm10, um10, sm10, em10⟩ := hG10.2 (nI tp) (nI qs) nq (nI un) ln nl sz at_ pl so vl wo fa fp lf lp ⟨_, _, _, _, s1⟩
            show PW _ _ _ _ _ _ (49, [(0, .ref 467), (1, .int (nI a1N)), (2, .int (nI a2N)), (3, .int (nI a3N)), (4, .int (nI a4N))], [], w10)
            refine P_aload_n d_MD_cornerBy_49 rfl ?_
            refine P_getf (i := 28) d_MD_cornerBy_50 ok_Model (by decide) L_MD_50 em10 rfl ?_
            refine P_iload d_MD_cornerBy_53 rfl ?_
            obtain ⟨f11, f11e⟩ := hI10.row (r := 479) (by decide) kc_479
            refine P_lald (j := a4N) d_MD_cornerBy_55 f11e (ix_nI (by omega)) (by omega) ?_
            exact P_lret d_MD_cornerBy_56 rfl (le_b rfl) (le_b rfl) ⟨⟨_, rfl⟩, hI10, FrM.of hF10 ⟨_, _, _, _, em⟩ ⟨_, _, _, _, em10⟩⟩
          · refine P_ldc2 (v := (-9223372036854775808)) d_MD_cornerBy_38 L_MD_307 ?_
            exact P_lret d_MD_cornerBy_41 rfl (le_b rfl) (le_b rfl) ⟨⟨_, rfl⟩, hI1, FrM.of hF1 ⟨_, _, _, _, em⟩ ⟨_, _, _, _, s1⟩⟩
theorem s_MD_hits {G : pG} {w : pW} (hI : I w) (a1 : Int32) (a2 : Int32) (a3 : Int32) : PM G M_MD_hits 7 0 0 [.ref 467, .int a1, .int a2, .int a3] w (fun r w' => (∃ v, r = some (.int v)) ∧ I w' ∧ FrM w w') := by
  refine PM_of pn_MD_hits (le_b rfl) ?_
  show PW _ _ _ _ _ _ (0, [(0, .ref 467), (1, .int a1), (2, .int a2), (3, .int a3)], [], w)
  obtain ⟨tp, qs, un, nq, ln, nl, sz, at_, pl, so, vl, wo, fa, fp, lf, lp, th, rm, um, sm, htp, hqs, hun, em⟩ := hI.md
  obtain ⟨fn, nm, np, en, hnm, e8, hnp, e9⟩ := hI.now
  refine P_aload_n d_MD_hits_0 rfl ?_
  refine P_iconst (v := 0) d_MD_hits_1 (by decide) ?_
  refine P_putG (i := 0) d_MD_hits_2 ok_Model (by decide) rfl L_MD_74 em (fun _ => rfl) (fun _ => rfl) (fun w1 e1 s1 n1 z1 => ?_)
  have hI1 : I w1 := hI.setM (show w1 = (_, wu _ 467 (mO (nI tp) (nI qs) nq (nI un) ln nl sz at_ pl so vl wo fa fp lf lp 0 rm um sm)) from e1) htp hqs hun
  have hF1 : Fr SN w w1 := Fr.set Fr.rf e1 (SN_t (by omega))
  show PW _ _ _ _ _ _ (5, [(0, .ref 467), (1, .int a1), (2, .int a2), (3, .int a3)], [], w1)
  refine P_aload_n d_MD_hits_5 rfl ?_
  refine P_iload_n d_MD_hits_6 rfl ?_
  refine P_callV (M := M_MD_hits) (pc := 7) (as := [.int a1]) (b := 467) d_MD_hits_7 co_MD_isMap ok_Model s1 L_MD_241 im_MD_isMap se_MD_isMap (s_MD_isMap a1 s1 htp hqs hun ((hF1.2 _ (SN_f (by omega))).trans en) hnm e8 hnp e9) rfl ⟨by decide, by decide⟩ ⟨by decide, by decide⟩ (by exact le_b rfl) ?_ _ rfl
  rintro _ u ⟨rfl, eu⟩
  subst u
  show PW _ _ _ _ _ _ (10, [(0, .ref 467), (1, .int a1), (2, .int a2), (3, .int a3)], [.int (bi (inN nm a1))], w1)
  refine P_if_eq 39 d_MD_hits_10 (by decide) (fun c3 => ?_) (fun c3 => ?_)
  · refine P_iconst (v := (-1)) d_MD_hits_39 (by decide) ?_
    exact P_iret d_MD_hits_40 rfl (le_b rfl) (le_b rfl) ⟨⟨_, rfl⟩, hI1, FrM.of hF1 ⟨_, _, _, _, em⟩ ⟨_, _, _, _, s1⟩⟩
  · obtain ⟨a1N, ha1N, rfl⟩ := inN_of (bi_1 c3) (by omega)
    refine P_aload_n d_MD_hits_13 rfl ?_
    refine P_iload_n d_MD_hits_14 rfl ?_
    refine P_callV (M := M_MD_hits) (pc := 15) (as := [.int a2]) (b := 467) d_MD_hits_15 co_MD_isQuad ok_Model s1 L_MD_238 im_MD_isQuad se_MD_isQuad (s_MD_isQuad a2 s1 htp hqs hun) rfl ⟨by decide, by decide⟩ ⟨by decide, by decide⟩ (by exact le_b rfl) ?_ _ rfl
    rintro _ u ⟨rfl, eu⟩
    subst u
    show PW _ _ _ _ _ _ (18, [(0, .ref 467), (1, .int (nI a1N)), (2, .int a2), (3, .int a3)], [.int (bi (inN qs a2))], w1)
    refine P_if_eq 39 d_MD_hits_18 (by decide) (fun c5 => ?_) (fun c5 => ?_)
    · refine P_iconst (v := (-1)) d_MD_hits_39 (by decide) ?_
      exact P_iret d_MD_hits_40 rfl (le_b rfl) (le_b rfl) ⟨⟨_, rfl⟩, hI1, FrM.of hF1 ⟨_, _, _, _, em⟩ ⟨_, _, _, _, s1⟩⟩
    · obtain ⟨a2N, ha2N, rfl⟩ := inN_of (bi_1 c5) (by omega)
      refine P_aload_n d_MD_hits_21 rfl ?_
      refine P_iload_n d_MD_hits_22 rfl ?_
      refine P_callV (M := M_MD_hits) (pc := 23) (as := [.int a3]) (b := 467) d_MD_hits_23 co_MD_isQuad ok_Model s1 L_MD_238 im_MD_isQuad se_MD_isQuad (s_MD_isQuad a3 s1 htp hqs hun) rfl ⟨by decide, by decide⟩ ⟨by decide, by decide⟩ (by exact le_b rfl) ?_ _ rfl
      rintro _ u ⟨rfl, eu⟩
      subst u
      show PW _ _ _ _ _ _ (26, [(0, .ref 467), (1, .int (nI a1N)), (2, .int (nI a2N)), (3, .int a3)], [.int (bi (inN qs a3))], w1)
      refine P_if_eq 39 d_MD_hits_26 (by decide) (fun c7 => ?_) (fun c7 => ?_)
      · refine P_iconst (v := (-1)) d_MD_hits_39 (by decide) ?_
        exact P_iret d_MD_hits_40 rfl (le_b rfl) (le_b rfl) ⟨⟨_, rfl⟩, hI1, FrM.of hF1 ⟨_, _, _, _, em⟩ ⟨_, _, _, _, s1⟩⟩
      · obtain ⟨a3N, ha3N, rfl⟩ := inN_of (bi_1 c7) (by omega)
        refine P_aload_n d_MD_hits_29 rfl ?_
        refine P_iload_n d_MD_hits_30 rfl ?_
        refine P_iload_n d_MD_hits_31 rfl ?_
        refine P_iload_n d_MD_hits_32 rfl ?_
        refine P_callV (M := M_MD_hits) (pc := 33) (as := [.int (nI a1N), .int (nI a2N), .int (nI a3N)]) (b := 467) d_MD_hits_33 co_MD_hitsOf ok_Model s1 L_MD_480 im_MD_hitsOf se_MD_hitsOf (s_MD_hitsOf hI1 a1N (by omega) a2N (by omega) a3N (by omega)) rfl ⟨by decide, by decide⟩ ⟨by decide, by decide⟩ (by exact le_b rfl) ?_ _ rfl
        rintro _ w8 ⟨⟨v8, rfl⟩, hI8, hG8⟩
        have hF8 : Fr SN w w8 := Fr.tr hF1 hG8.1
        obtain ⟨th8, rm8, um8, sm8, em8⟩ := hG8.2 (nI tp) (nI qs) nq (nI un) ln nl sz at_ pl so vl wo fa fp lf lp ⟨_, _, _, _, s1⟩
        show PW _ _ _ _ _ _ (36, [(0, .ref 467), (1, .int (nI a1N)), (2, .int (nI a2N)), (3, .int (nI a3N))], [.int v8], w8)
        refine P_goto 40 d_MD_hits_36 (by decide) ?_
        exact P_iret d_MD_hits_40 rfl (le_b rfl) (le_b rfl) ⟨⟨_, rfl⟩, hI8, FrM.of hF8 ⟨_, _, _, _, em⟩ ⟨_, _, _, _, em8⟩⟩
theorem s_MD_goesTo {G : pG} {w : pW} (hI : I w) (a1 : Int32) (a2 : Int32) : PM G M_MD_goesTo 7 0 0 [.ref 467, .int a1, .int a2] w (fun r w' => (∃ v, r = some (.int v)) ∧ I w' ∧ FrM w w') := by
  refine PM_of pn_MD_goesTo (le_b rfl) ?_
  show PW _ _ _ _ _ _ (0, [(0, .ref 467), (1, .int a1), (2, .int a2)], [], w)
  obtain ⟨tp, qs, un, nq, ln, nl, sz, at_, pl, so, vl, wo, fa, fp, lf, lp, th, rm, um, sm, htp, hqs, hun, em⟩ := hI.md
  obtain ⟨fn, nm, np, en, hnm, e8, hnp, e9⟩ := hI.now
  refine P_aload_n d_MD_goesTo_0 rfl ?_
  refine P_iconst (v := 0) d_MD_goesTo_1 (by decide) ?_
  refine P_putG (i := 0) d_MD_goesTo_2 ok_Model (by decide) rfl L_MD_74 em (fun _ => rfl) (fun _ => rfl) (fun w1 e1 s1 n1 z1 => ?_)
  have hI1 : I w1 := hI.setM (show w1 = (_, wu _ 467 (mO (nI tp) (nI qs) nq (nI un) ln nl sz at_ pl so vl wo fa fp lf lp 0 rm um sm)) from e1) htp hqs hun
  have hF1 : Fr SN w w1 := Fr.set Fr.rf e1 (SN_t (by omega))
  show PW _ _ _ _ _ _ (5, [(0, .ref 467), (1, .int a1), (2, .int a2)], [], w1)
  refine P_aload_n d_MD_goesTo_5 rfl ?_
  refine P_iload_n d_MD_goesTo_6 rfl ?_
  refine P_callV (M := M_MD_goesTo) (pc := 7) (as := [.int a1]) (b := 467) d_MD_goesTo_7 co_MD_isMap ok_Model s1 L_MD_241 im_MD_isMap se_MD_isMap (s_MD_isMap a1 s1 htp hqs hun ((hF1.2 _ (SN_f (by omega))).trans en) hnm e8 hnp e9) rfl ⟨by decide, by decide⟩ ⟨by decide, by decide⟩ (by exact le_b rfl) ?_ _ rfl
  rintro _ u ⟨rfl, eu⟩
  subst u
  show PW _ _ _ _ _ _ (10, [(0, .ref 467), (1, .int a1), (2, .int a2)], [.int (bi (inN nm a1))], w1)
  refine P_if_eq 21 d_MD_goesTo_10 (by decide) (fun c3 => ?_) (fun c3 => ?_)
  · refine P_iconst (v := (-1)) d_MD_goesTo_21 (by decide) ?_
    exact P_iret d_MD_goesTo_22 rfl (le_b rfl) (le_b rfl) ⟨⟨_, rfl⟩, hI1, FrM.of hF1 ⟨_, _, _, _, em⟩ ⟨_, _, _, _, s1⟩⟩
  · obtain ⟨a1N, ha1N, rfl⟩ := inN_of (bi_1 c3) (by omega)
    refine P_aload_n d_MD_goesTo_13 rfl ?_
    refine P_iload_n d_MD_goesTo_14 rfl ?_
    refine P_callV (M := M_MD_goesTo) (pc := 15) (as := [.int a2]) (b := 467) d_MD_goesTo_15 co_MD_isQuad ok_Model s1 L_MD_238 im_MD_isQuad se_MD_isQuad (s_MD_isQuad a2 s1 htp hqs hun) rfl ⟨by decide, by decide⟩ ⟨by decide, by decide⟩ (by exact le_b rfl) ?_ _ rfl
    rintro _ u ⟨rfl, eu⟩
    subst u
    show PW _ _ _ _ _ _ (18, [(0, .ref 467), (1, .int (nI a1N)), (2, .int a2)], [.int (bi (inN qs a2))], w1)
    refine P_if_ne 23 d_MD_goesTo_18 (by decide) (fun c5 => ?_) (fun c5 => ?_)
    · obtain ⟨a2N, ha2N, rfl⟩ := inN_of (bi_1 c5) (by omega)
      refine P_iconst (v := 0) d_MD_goesTo_23 (by decide) ?_
      refine P_istore_n d_MD_goesTo_24 (by decide) rfl ?_
      refine P_iconst (v := 0) d_MD_goesTo_25 (by decide) ?_
      refine P_istore d_MD_goesTo_26 (by decide) rfl ?_
      refine PW_ind (σ := Int32 × pW) (qs) (fun jj ss => I (ss.2) ∧ Fr SN w (ss.2) ∧ MS (nI tp) (nI qs) nq (nI un) ln nl sz at_ pl so vl wo fa fp lf lp ((ss.2).2 467)) (fun jj ss => (28, [(0, .ref 467), (1, .int (nI a1N)), (2, .int (nI a2N)), (3, .int ss.1), (4, .int (nI jj))], [], ss.2)) ?_ ?_ 0 (0, w1) (by omega) ⟨hI1, hF1, ⟨_, _, _, _, s1⟩⟩
      · rintro ⟨j6_3, uj6⟩ ⟨hIj6, hFj6, ⟨thj6, rmj6, umj6, smj6, emj6⟩⟩
        show PW _ _ _ _ _ _ (28, [(0, .ref 467), (1, .int (nI a1N)), (2, .int (nI a2N)), (3, .int j6_3), (4, .int (nI qs))], [], uj6)
        refine P_iload d_MD_goesTo_28 rfl ?_
        refine P_aload_n d_MD_goesTo_30 rfl ?_
        refine P_getf (i := 5) d_MD_goesTo_31 ok_Model (by decide) L_MD_204 emj6 rfl ?_
        refine P_icmp_ge 63 d_MD_goesTo_34 (by decide) (fun _ => ?_) (fun h => absurd (Int32.le_refl _) h)
        refine P_iload_n d_MD_goesTo_63 rfl ?_
        exact P_iret d_MD_goesTo_64 rfl (le_b rfl) (le_b rfl) ⟨⟨_, rfl⟩, hIj6, FrM.of hFj6 ⟨_, _, _, _, em⟩ ⟨_, _, _, _, emj6⟩⟩
      · rintro j6 ⟨j6_3, uj6⟩ hj6 ⟨hIj6, hFj6, ⟨thj6, rmj6, umj6, smj6, emj6⟩⟩ kkj6
        show PW _ _ _ _ _ _ (28, [(0, .ref 467), (1, .int (nI a1N)), (2, .int (nI a2N)), (3, .int j6_3), (4, .int (nI j6))], [], uj6)
        refine P_iload d_MD_goesTo_28 rfl ?_
        refine P_aload_n d_MD_goesTo_30 rfl ?_
        refine P_getf (i := 5) d_MD_goesTo_31 ok_Model (by decide) L_MD_204 emj6 rfl ?_
        refine P_icmp_ge 63 d_MD_goesTo_34 (by decide) (fun h => absurd h (nI_geF (a := j6) (b := qs) (by omega) (by omega))) (fun _ => ?_)
        refine P_iload_n d_MD_goesTo_37 rfl ?_
        refine P_aload_n d_MD_goesTo_38 rfl ?_
        refine P_iload_n d_MD_goesTo_39 rfl ?_
        refine P_iload_n d_MD_goesTo_40 rfl ?_
        refine P_iload d_MD_goesTo_41 rfl ?_
        refine P_callV (M := M_MD_goesTo) (pc := 43) (as := [.int (nI a1N), .int (nI a2N), .int (nI j6)]) (b := 467) d_MD_goesTo_43 co_MD_hitsOf ok_Model emj6 L_MD_480 im_MD_hitsOf se_MD_hitsOf (s_MD_hitsOf hIj6 a1N (by omega) a2N (by omega) j6 (by omega)) rfl ⟨by decide, by decide⟩ ⟨by decide, by decide⟩ (by exact le_b rfl) ?_ _ rfl
        rintro _ w7 ⟨⟨v7, rfl⟩, hI7, hG7⟩
        have hF7 : Fr SN w w7 := Fr.tr hFj6 hG7.1
        obtain ⟨th7, rm7, um7, sm7, em7⟩ := hG7.2 (nI tp) (nI qs) nq (nI un) ln nl sz at_ pl so vl wo fa fp lf lp ⟨_, _, _, _, emj6⟩
        show PW _ _ _ _ _ _ (46, [(0, .ref 467), (1, .int (nI a1N)), (2, .int (nI a2N)), (3, .int j6_3), (4, .int (nI j6))], [.int v7, .int j6_3], w7)
        refine P_iconst (v := 4) d_MD_goesTo_46 (by decide) ?_
        refine P_icmp_ne 54 d_MD_goesTo_47 (by decide) (fun c8 => ?_) (fun c8 => ?_)
        · refine P_iconst (v := 0) d_MD_goesTo_54 (by decide) ?_
          refine P_iadd d_MD_goesTo_55 ?_
          refine P_istore_n d_MD_goesTo_56 (by decide) rfl ?_
          refine P_iinc (v := nI (j6 + 1)) d_MD_goesTo_57 (by decide) rfl (nI_add j6 1) rfl ?_
          refine P_goto 28 d_MD_goesTo_60 (by decide) ?_
          exact kkj6 (j6_3 + 0, w7) ⟨hI7, hF7, ⟨_, _, _, _, em7⟩⟩
        · refine P_iconst (v := 1) d_MD_goesTo_50 (by decide) ?_
          refine P_goto 55 d_MD_goesTo_51 (by decide) ?_
          refine P_iadd d_MD_goesTo_55 ?_
          refine P_istore_n d_MD_goesTo_56 (by decide) rfl ?_
          refine P_iinc (v := nI (j6 + 1)) d_MD_goesTo_57 (by decide) rfl (nI_add j6 1) rfl ?_
          refine P_goto 28 d_MD_goesTo_60 (by decide) ?_
          exact kkj6 (j6_3 + 1, w7) ⟨hI7, hF7, ⟨_, _, _, _, em7⟩⟩
    · refine P_iconst (v := (-1)) d_MD_goesTo_21 (by decide) ?_
      exact P_iret d_MD_goesTo_22 rfl (le_b rfl) (le_b rfl) ⟨⟨_, rfl⟩, hI1, FrM.of hF1 ⟨_, _, _, _, em⟩ ⟨_, _, _, _, s1⟩⟩
theorem s_MD_farthest {G : pG} {w : pW} (hI : I w) (a1 : Int32) : PM G M_MD_farthest 6 0 0 [.ref 467, .int a1] w (fun r w' => (∃ v, r = some (.long v)) ∧ I w' ∧ FrM w w') := by
  refine PM_of pn_MD_farthest (le_b rfl) ?_
  show PW _ _ _ _ _ _ (0, [(0, .ref 467), (1, .int a1)], [], w)
  obtain ⟨tp, qs, un, nq, ln, nl, sz, at_, pl, so, vl, wo, fa, fp, lf, lp, th, rm, um, sm, htp, hqs, hun, em⟩ := hI.md
  obtain ⟨fn, nm, np, en, hnm, e8, hnp, e9⟩ := hI.now
  refine P_aload_n d_MD_farthest_0 rfl ?_
  refine P_iconst (v := 0) d_MD_farthest_1 (by decide) ?_
  refine P_putG (i := 0) d_MD_farthest_2 ok_Model (by decide) rfl L_MD_74 em (fun _ => rfl) (fun _ => rfl) (fun w1 e1 s1 n1 z1 => ?_)
  have hI1 : I w1 := hI.setM (show w1 = (_, wu _ 467 (mO (nI tp) (nI qs) nq (nI un) ln nl sz at_ pl so vl wo fa fp lf lp 0 rm um sm)) from e1) htp hqs hun
  have hF1 : Fr SN w w1 := Fr.set Fr.rf e1 (SN_t (by omega))
  show PW _ _ _ _ _ _ (5, [(0, .ref 467), (1, .int a1)], [], w1)
  refine P_aload_n d_MD_farthest_5 rfl ?_
  refine P_iload_n d_MD_farthest_6 rfl ?_
  refine P_callV (M := M_MD_farthest) (pc := 7) (as := [.int a1]) (b := 467) d_MD_farthest_7 co_MD_isMap ok_Model s1 L_MD_241 im_MD_isMap se_MD_isMap (s_MD_isMap a1 s1 htp hqs hun ((hF1.2 _ (SN_f (by omega))).trans en) hnm e8 hnp e9) rfl ⟨by decide, by decide⟩ ⟨by decide, by decide⟩ (by exact le_b rfl) ?_ _ rfl
  rintro _ u ⟨rfl, eu⟩
  subst u
  show PW _ _ _ _ _ _ (10, [(0, .ref 467), (1, .int a1)], [.int (bi (inN nm a1))], w1)
  refine P_if_ne 17 d_MD_farthest_10 (by decide) (fun c3 => ?_) (fun c3 => ?_)
  · obtain ⟨a1N, ha1N, rfl⟩ := inN_of (bi_1 c3) (by omega)
    refine P_lconst (v := 0) d_MD_farthest_17 (by decide) ?_
    refine P_lstore_n d_MD_farthest_18 (by decide) rfl ?_
    refine P_iconst (v := 0) d_MD_farthest_19 (by decide) ?_
    refine P_istore d_MD_farthest_20 (by decide) rfl ?_
    refine PW_ind (σ := Int64 × pW) (np) (fun jj ss => I (ss.2) ∧ Fr SN w (ss.2) ∧ MS (nI tp) (nI qs) nq (nI un) ln nl sz at_ pl so vl wo fa fp lf lp ((ss.2).2 467)) (fun jj ss => (22, [(0, .ref 467), (1, .int (nI a1N)), (2, .long ss.1), (4, .int (nI jj))], [], ss.2)) ?_ ?_ 0 (0, w1) (by omega) ⟨hI1, hF1, ⟨_, _, _, _, s1⟩⟩
    · rintro ⟨j4_2, uj4⟩ ⟨hIj4, hFj4, ⟨thj4, rmj4, umj4, smj4, emj4⟩⟩
      show PW _ _ _ _ _ _ (22, [(0, .ref 467), (1, .int (nI a1N)), (2, .long j4_2), (4, .int (nI np))], [], uj4)
      refine P_iload d_MD_farthest_22 rfl ?_
      refine P_i2lN (n1 := np) d_MD_farthest_24 (by omega) ?_
      refine P_aload_n d_MD_farthest_25 rfl ?_
      refine P_getf (i := 7) d_MD_farthest_26 ok_Model (by decide) L_MD_21 emj4 rfl ?_
      refine P_sipush (v := 169) d_MD_farthest_29 (by decide) ?_
      refine P_lald (j := 169) d_MD_farthest_32 ((hFj4.2 _ (SN_f (by omega))).trans en) ⟨by decide, by decide⟩ (by decide) ?_
      rw [e9]
      show PW _ _ _ _ _ _ (33, [(0, .ref 467), (1, .int (nI a1N)), (2, .long j4_2), (4, .int (nI np))], [.long (lN np), .long (lN np)], uj4)
      refine P_lcmpN (a := np) (b := np) d_MD_farthest_33 (by omega) (by omega) ?_
      show PW _ _ _ _ _ _ (34, [(0, .ref 467), (1, .int (nI a1N)), (2, .long j4_2), (4, .int (nI np))], [.int (cN np np)], uj4)
      refine P_if_ge 80 d_MD_farthest_34 (by decide) (fun _ => ?_) (fun h => absurd (cN_self np) h)
      refine P_lload_n d_MD_farthest_80 rfl ?_
      exact P_lret d_MD_farthest_81 rfl (le_b rfl) (le_b rfl) ⟨⟨_, rfl⟩, hIj4, FrM.of hFj4 ⟨_, _, _, _, em⟩ ⟨_, _, _, _, emj4⟩⟩
    · rintro j4 ⟨j4_2, uj4⟩ hj4 ⟨hIj4, hFj4, ⟨thj4, rmj4, umj4, smj4, emj4⟩⟩ kkj4
      show PW _ _ _ _ _ _ (22, [(0, .ref 467), (1, .int (nI a1N)), (2, .long j4_2), (4, .int (nI j4))], [], uj4)
      refine P_iload d_MD_farthest_22 rfl ?_
      refine P_i2lN (n1 := j4) d_MD_farthest_24 (by omega) ?_
      refine P_aload_n d_MD_farthest_25 rfl ?_
      refine P_getf (i := 7) d_MD_farthest_26 ok_Model (by decide) L_MD_21 emj4 rfl ?_
      refine P_sipush (v := 169) d_MD_farthest_29 (by decide) ?_
      refine P_lald (j := 169) d_MD_farthest_32 ((hFj4.2 _ (SN_f (by omega))).trans en) ⟨by decide, by decide⟩ (by decide) ?_
      rw [e9]
      show PW _ _ _ _ _ _ (33, [(0, .ref 467), (1, .int (nI a1N)), (2, .long j4_2), (4, .int (nI j4))], [.long (lN np), .long (lN j4)], uj4)
      refine P_lcmpN (a := j4) (b := np) d_MD_farthest_33 (by omega) (by omega) ?_
      show PW _ _ _ _ _ _ (34, [(0, .ref 467), (1, .int (nI a1N)), (2, .long j4_2), (4, .int (nI j4))], [.int (cN j4 np)], uj4)
      refine P_if_ge 80 d_MD_farthest_34 (by decide) (fun h => absurd h (cN_ltF (by omega))) (fun _ => ?_)
      refine P_aload_n d_MD_farthest_37 rfl ?_
      refine P_iload_n d_MD_farthest_38 rfl ?_
      refine P_iload d_MD_farthest_39 rfl ?_
      refine P_callV (M := M_MD_farthest) (pc := 41) (as := [.int (nI a1N), .int (nI j4)]) (b := 467) d_MD_farthest_41 co_MD_imageOf ok_Model emj4 L_MD_298 im_MD_imageOf se_MD_imageOf (s_MD_imageOf hIj4 a1N (by omega) j4 (by omega)) rfl ⟨by decide, by decide⟩ ⟨by decide, by decide⟩ (by exact le_b rfl) ?_ _ rfl
      rintro _ w5 ⟨rfl, hI5, hG5⟩
      have hF5 : Fr SN w w5 := Fr.tr hFj4 hG5.1
      obtain ⟨th5, rm5, um5, sm5, em5⟩ := hG5.2 (nI tp) (nI qs) nq (nI un) ln nl sz at_ pl so vl wo fa fp lf lp ⟨_, _, _, _, emj4⟩
      show PW _ _ _ _ _ _ (44, [(0, .ref 467), (1, .int (nI a1N)), (2, .long j4_2), (4, .int (nI j4))], [], w5)
      refine P_iconst (v := 0) d_MD_farthest_44 (by decide) ?_
      refine P_istore d_MD_farthest_45 (by decide) rfl ?_
      refine PW_ind (σ := Int64 × pW) (3) (fun jj ss => I (ss.2) ∧ Fr SN w (ss.2) ∧ MS (nI tp) (nI qs) nq (nI un) ln nl sz at_ pl so vl wo fa fp lf lp ((ss.2).2 467)) (fun jj ss => (47, [(0, .ref 467), (1, .int (nI a1N)), (2, .long ss.1), (4, .int (nI j4)), (5, .int (nI jj))], [], ss.2)) ?_ ?_ 0 (j4_2, w5) (by omega) ⟨hI5, hF5, ⟨_, _, _, _, em5⟩⟩
      · rintro ⟨j6_2, uj6⟩ ⟨hIj6, hFj6, ⟨thj6, rmj6, umj6, smj6, emj6⟩⟩
        show PW _ _ _ _ _ _ (47, [(0, .ref 467), (1, .int (nI a1N)), (2, .long j6_2), (4, .int (nI j4)), (5, .int 3)], [], uj6)
        refine P_iload d_MD_farthest_47 rfl ?_
        refine P_iconst (v := 3) d_MD_farthest_49 (by decide) ?_
        refine P_icmp_ge 74 d_MD_farthest_50 (by decide) (fun _ => ?_) (fun h => absurd (by decide) h)
        refine P_iinc (v := nI (j4 + 1)) d_MD_farthest_74 (by decide) rfl (nI_add j4 1) rfl ?_
        refine P_goto 22 d_MD_farthest_77 (by decide) ?_
        show PW _ _ _ _ _ _ (22, [(0, .ref 467), (1, .int (nI a1N)), (2, .long j6_2), (4, .int (nI (j4 + 1))), (5, .int 3)], [], uj6)
        refine PW.drop (lv' := [(0, .ref 467), (1, .int (nI a1N)), (2, .long j6_2), (4, .int (nI (j4 + 1)))]) (by simp) ?_
        exact kkj4 (j6_2, uj6) ⟨hIj6, hFj6, ⟨_, _, _, _, emj6⟩⟩
      · rintro j6 ⟨j6_2, uj6⟩ hj6 ⟨hIj6, hFj6, ⟨thj6, rmj6, umj6, smj6, emj6⟩⟩ kkj6
        show PW _ _ _ _ _ _ (47, [(0, .ref 467), (1, .int (nI a1N)), (2, .long j6_2), (4, .int (nI j4)), (5, .int (nI j6))], [], uj6)
        refine P_iload d_MD_farthest_47 rfl ?_
        refine P_iconst (v := 3) d_MD_farthest_49 (by decide) ?_
        refine P_icmp_ge 74 d_MD_farthest_50 (by decide) (fun h => absurd h (nI_geF (a := j6) (b := 3) (by omega) (by omega))) (fun _ => ?_)
        refine P_lload_n d_MD_farthest_53 rfl ?_
        refine P_aload_n d_MD_farthest_54 rfl ?_
        refine P_getf (i := 28) d_MD_farthest_55 ok_Model (by decide) L_MD_50 emj6 rfl ?_
        refine P_iload d_MD_farthest_58 rfl ?_
        obtain ⟨f7, f7e⟩ := hIj6.row (r := 479) (by decide) kc_479
        refine P_lald (j := j6) d_MD_farthest_60 f7e (ix_nI (by omega)) (by omega) ?_
        refine P_mabslZ d_MD_farthest_61 L_MD_210 st_abs in_Math cd_abs ⟨by decide, by decide, by decide, by decide⟩ (by exact le_b rfl) (fun zz8 => ?_)
        show PW _ _ _ _ _ _ (64, [(0, .ref 467), (1, .int (nI a1N)), (2, .long j6_2), (4, .int (nI j4)), (5, .int (nI j6))], [.long zz8, .long j6_2], uj6)
        refine P_mmaxlZ d_MD_farthest_64 L_MD_374 st_max in_Math cd_max ⟨by decide, by decide, by decide, by decide⟩ (by exact le_b rfl) (fun zz9 => ?_)
        show PW _ _ _ _ _ _ (67, [(0, .ref 467), (1, .int (nI a1N)), (2, .long j6_2), (4, .int (nI j4)), (5, .int (nI j6))], [.long zz9], uj6)
        refine P_lstore_n d_MD_farthest_67 (by decide) rfl ?_
        refine P_iinc (v := nI (j6 + 1)) d_MD_farthest_68 (by decide) rfl (nI_add j6 1) rfl ?_
        refine P_goto 47 d_MD_farthest_71 (by decide) ?_
        exact kkj6 (zz9, uj6) ⟨hIj6, hFj6, ⟨_, _, _, _, emj6⟩⟩
  · refine P_ldc2 (v := (-9223372036854775808)) d_MD_farthest_13 L_MD_307 ?_
    exact P_lret d_MD_farthest_16 rfl (le_b rfl) (le_b rfl) ⟨⟨_, rfl⟩, hI1, FrM.of hF1 ⟨_, _, _, _, em⟩ ⟨_, _, _, _, s1⟩⟩
theorem s_MD_find {G : pG} {w : pW} (hI : I w) (a1 : Int32) (a2 : Int32) : PM G M_MD_find 4 0 0 [.ref 467, .int a1, .int a2] w (fun r w' => (∃ v, r = some (.int v)) ∧ I w' ∧ FrM w w') := by
  refine PM_of pn_MD_find (le_b rfl) ?_
  show PW _ _ _ _ _ _ (0, [(0, .ref 467), (1, .int a1), (2, .int a2)], [], w)
  obtain ⟨tp, qs, un, nq, ln, nl, sz, at_, pl, so, vl, wo, fa, fp, lf, lp, th, rm, um, sm, htp, hqs, hun, em⟩ := hI.md
  obtain ⟨fn, nm, np, en, hnm, e8, hnp, e9⟩ := hI.now
  obtain ⟨f469, r469⟩ := hI.ints (r := 469) (by decide) kc_469
  refine P_aload_n d_MD_find_0 rfl ?_
  refine P_iconst (v := 0) d_MD_find_1 (by decide) ?_
  refine P_putG (i := 0) d_MD_find_2 ok_Model (by decide) rfl L_MD_74 em (fun _ => rfl) (fun _ => rfl) (fun w1 e1 s1 n1 z1 => ?_)
  have hI1 : I w1 := hI.setM (show w1 = (_, wu _ 467 (mO (nI tp) (nI qs) nq (nI un) ln nl sz at_ pl so vl wo fa fp lf lp 0 rm um sm)) from e1) htp hqs hun
  have hF1 : Fr SN w w1 := Fr.set Fr.rf e1 (SN_t (by omega))
  show PW _ _ _ _ _ _ (5, [(0, .ref 467), (1, .int a1), (2, .int a2)], [], w1)
  refine P_aload_n d_MD_find_5 rfl ?_
  refine P_iload_n d_MD_find_6 rfl ?_
  refine P_callV (M := M_MD_find) (pc := 7) (as := [.int a1]) (b := 467) d_MD_find_7 co_MD_isQuad ok_Model s1 L_MD_238 im_MD_isQuad se_MD_isQuad (s_MD_isQuad a1 s1 htp hqs hun) rfl ⟨by decide, by decide⟩ ⟨by decide, by decide⟩ (by exact le_b rfl) ?_ _ rfl
  rintro _ u ⟨rfl, eu⟩
  subst u
  show PW _ _ _ _ _ _ (10, [(0, .ref 467), (1, .int a1), (2, .int a2)], [.int (bi (inN qs a1))], w1)
  refine P_if_eq 21 d_MD_find_10 (by decide) (fun c3 => ?_) (fun c3 => ?_)
  · refine P_iconst (v := (-1)) d_MD_find_21 (by decide) ?_
    exact P_iret d_MD_find_22 rfl (le_b rfl) (le_b rfl) ⟨⟨_, rfl⟩, hI1, FrM.of hF1 ⟨_, _, _, _, em⟩ ⟨_, _, _, _, s1⟩⟩
  · obtain ⟨a1N, ha1N, rfl⟩ := inN_of (bi_1 c3) (by omega)
    refine P_aload_n d_MD_find_13 rfl ?_
    refine P_iload_n d_MD_find_14 rfl ?_
    refine P_callV (M := M_MD_find) (pc := 15) (as := [.int a2]) (b := 467) d_MD_find_15 co_MD_isQuad ok_Model s1 L_MD_238 im_MD_isQuad se_MD_isQuad (s_MD_isQuad a2 s1 htp hqs hun) rfl ⟨by decide, by decide⟩ ⟨by decide, by decide⟩ (by exact le_b rfl) ?_ _ rfl
    rintro _ u ⟨rfl, eu⟩
    subst u
    show PW _ _ _ _ _ _ (18, [(0, .ref 467), (1, .int (nI a1N)), (2, .int a2)], [.int (bi (inN qs a2))], w1)
    refine P_if_ne 23 d_MD_find_18 (by decide) (fun c5 => ?_) (fun c5 => ?_)
    · obtain ⟨a2N, ha2N, rfl⟩ := inN_of (bi_1 c5) (by omega)
      refine P_aload_n d_MD_find_23 rfl ?_
      refine P_aload_n d_MD_find_24 rfl ?_
      refine P_getf (i := 3) d_MD_find_25 ok_Model (by decide) L_MD_15 s1 rfl ?_
      refine P_iload_n d_MD_find_28 rfl ?_
      refine P_iload_n d_MD_find_29 rfl ?_
      refine P_callV (M := M_MD_find) (pc := 30) (as := [.ref 469, .int (nI a1N), .int (nI a2N)]) (b := 467) d_MD_find_30 co_MD_laysMap ok_Model s1 L_MD_168 im_MD_laysMap se_MD_laysMap (s_MD_laysMap hI1 (by decide) kc_469 (by decide) a1N (by omega) a2N (by omega) (by omega) (by omega) (by omega)) rfl ⟨by decide, by decide⟩ ⟨by decide, by decide⟩ (by exact le_b rfl) ?_ _ rfl
      rintro _ w6 ⟨rfl, hI6, hG6⟩
      have hF6 : Fr SN w w6 := Fr.tr hF1 hG6.1
      obtain ⟨th6, rm6, um6, sm6, em6⟩ := hG6.2 (nI tp) (nI qs) nq (nI un) ln nl sz at_ pl so vl wo fa fp lf lp ⟨_, _, _, _, s1⟩
      show PW _ _ _ _ _ _ (33, [(0, .ref 467), (1, .int (nI a1N)), (2, .int (nI a2N))], [], w6)
      refine P_iconst (v := 0) d_MD_find_33 (by decide) ?_
      refine P_istore_n d_MD_find_34 (by decide) rfl ?_
      refine PW_ind (σ := pW) (nm) (fun jj ss => I (ss) ∧ Fr SN w (ss) ∧ MS (nI tp) (nI qs) nq (nI un) ln nl sz at_ pl so vl wo fa fp lf lp ((ss).2 467)) (fun jj ss => (35, [(0, .ref 467), (1, .int (nI a1N)), (2, .int (nI a2N)), (3, .int (nI jj))], [], ss)) ?_ ?_ 0 (w6) (by omega) ⟨hI6, hF6, ⟨_, _, _, _, em6⟩⟩
      · rintro uj7 ⟨hIj7, hFj7, ⟨thj7, rmj7, umj7, smj7, emj7⟩⟩
        show PW _ _ _ _ _ _ (35, [(0, .ref 467), (1, .int (nI a1N)), (2, .int (nI a2N)), (3, .int (nI nm))], [], uj7)
        refine P_iload_n d_MD_find_35 rfl ?_
        refine P_i2lN (n1 := nm) d_MD_find_36 (by omega) ?_
        refine P_aload_n d_MD_find_37 rfl ?_
        refine P_getf (i := 7) d_MD_find_38 ok_Model (by decide) L_MD_21 emj7 rfl ?_
        refine P_sipush (v := 168) d_MD_find_41 (by decide) ?_
        refine P_lald (j := 168) d_MD_find_44 ((hFj7.2 _ (SN_f (by omega))).trans en) ⟨by decide, by decide⟩ (by decide) ?_
        rw [e8]
        show PW _ _ _ _ _ _ (45, [(0, .ref 467), (1, .int (nI a1N)), (2, .int (nI a2N)), (3, .int (nI nm))], [.long (lN nm), .long (lN nm)], uj7)
        refine P_lcmpN (a := nm) (b := nm) d_MD_find_45 (by omega) (by omega) ?_
        show PW _ _ _ _ _ _ (46, [(0, .ref 467), (1, .int (nI a1N)), (2, .int (nI a2N)), (3, .int (nI nm))], [.int (cN nm nm)], uj7)
        refine P_if_ge 65 d_MD_find_46 (by decide) (fun _ => ?_) (fun h => absurd (cN_self nm) h)
        refine P_bipush (v := (-2)) d_MD_find_65 (by decide) ?_
        exact P_iret d_MD_find_67 rfl (le_b rfl) (le_b rfl) ⟨⟨_, rfl⟩, hIj7, FrM.of hFj7 ⟨_, _, _, _, em⟩ ⟨_, _, _, _, emj7⟩⟩
      · rintro j7 uj7 hj7 ⟨hIj7, hFj7, ⟨thj7, rmj7, umj7, smj7, emj7⟩⟩ kkj7
        show PW _ _ _ _ _ _ (35, [(0, .ref 467), (1, .int (nI a1N)), (2, .int (nI a2N)), (3, .int (nI j7))], [], uj7)
        refine P_iload_n d_MD_find_35 rfl ?_
        refine P_i2lN (n1 := j7) d_MD_find_36 (by omega) ?_
        refine P_aload_n d_MD_find_37 rfl ?_
        refine P_getf (i := 7) d_MD_find_38 ok_Model (by decide) L_MD_21 emj7 rfl ?_
        refine P_sipush (v := 168) d_MD_find_41 (by decide) ?_
        refine P_lald (j := 168) d_MD_find_44 ((hFj7.2 _ (SN_f (by omega))).trans en) ⟨by decide, by decide⟩ (by decide) ?_
        rw [e8]
        show PW _ _ _ _ _ _ (45, [(0, .ref 467), (1, .int (nI a1N)), (2, .int (nI a2N)), (3, .int (nI j7))], [.long (lN nm), .long (lN j7)], uj7)
        refine P_lcmpN (a := j7) (b := nm) d_MD_find_45 (by omega) (by omega) ?_
        show PW _ _ _ _ _ _ (46, [(0, .ref 467), (1, .int (nI a1N)), (2, .int (nI a2N)), (3, .int (nI j7))], [.int (cN j7 nm)], uj7)
        refine P_if_ge 65 d_MD_find_46 (by decide) (fun h => absurd h (cN_ltF (by omega))) (fun _ => ?_)
        refine P_aload_n d_MD_find_49 rfl ?_
        refine P_iload_n d_MD_find_50 rfl ?_
        obtain ⟨f8, f8e⟩ := hIj7.row (r := 476) (by decide) kc_476
        refine P_callV (M := M_MD_find) (pc := 51) (as := [.int (nI j7)]) (b := 467) d_MD_find_51 co_MD_isLike ok_Model emj7 L_MD_331 im_MD_isLike se_MD_isLike (s_MD_isLike j7 (by omega) emj7 htp hqs hun ((hFj7.2 _ (SN_f (by omega))).trans en) hnm e8 hnp e9 f8e) rfl ⟨by decide, by decide⟩ ⟨by decide, by decide⟩ (by exact le_b rfl) ?_ _ rfl
        rintro _ u ⟨⟨v9, rfl⟩, eu⟩
        subst u
        show PW _ _ _ _ _ _ (54, [(0, .ref 467), (1, .int (nI a1N)), (2, .int (nI a2N)), (3, .int (nI j7))], [.int (bi v9)], uj7)
        refine P_if_eq 59 d_MD_find_54 (by decide) (fun c10 => ?_) (fun c10 => ?_)
        · refine P_iinc (v := nI (j7 + 1)) d_MD_find_59 (by decide) rfl (nI_add j7 1) rfl ?_
          refine P_goto 35 d_MD_find_62 (by decide) ?_
          exact kkj7 (uj7) ⟨hIj7, hFj7, ⟨_, _, _, _, emj7⟩⟩
        · refine P_iload_n d_MD_find_57 rfl ?_
          exact P_iret d_MD_find_58 rfl (le_b rfl) (le_b rfl) ⟨⟨_, rfl⟩, hIj7, FrM.of hFj7 ⟨_, _, _, _, em⟩ ⟨_, _, _, _, emj7⟩⟩
    · refine P_iconst (v := (-1)) d_MD_find_21 (by decide) ?_
      exact P_iret d_MD_find_22 rfl (le_b rfl) (le_b rfl) ⟨⟨_, rfl⟩, hI1, FrM.of hF1 ⟨_, _, _, _, em⟩ ⟨_, _, _, _, s1⟩⟩
theorem s_MD_size {G : pG} {w : pW} (hI : I w) (a1 : Int32) : PM G M_MD_size 2 0 0 [.ref 467, .int a1] w (fun r w' => (∃ v, r = some (.int v)) ∧ I w' ∧ FrM w w') := by
  refine PM_of pn_MD_size (le_b rfl) ?_
  show PW _ _ _ _ _ _ (0, [(0, .ref 467), (1, .int a1)], [], w)
  obtain ⟨tp, qs, un, nq, ln, nl, sz, at_, pl, so, vl, wo, fa, fp, lf, lp, th, rm, um, sm, htp, hqs, hun, em⟩ := hI.md
  obtain ⟨fn, nm, np, en, hnm, e8, hnp, e9⟩ := hI.now
  refine P_aload_n d_MD_size_0 rfl ?_
  refine P_iconst (v := 0) d_MD_size_1 (by decide) ?_
  refine P_putG (i := 0) d_MD_size_2 ok_Model (by decide) rfl L_MD_74 em (fun _ => rfl) (fun _ => rfl) (fun w1 e1 s1 n1 z1 => ?_)
  have hI1 : I w1 := hI.setM (show w1 = (_, wu _ 467 (mO (nI tp) (nI qs) nq (nI un) ln nl sz at_ pl so vl wo fa fp lf lp 0 rm um sm)) from e1) htp hqs hun
  have hF1 : Fr SN w w1 := Fr.set Fr.rf e1 (SN_t (by omega))
  show PW _ _ _ _ _ _ (5, [(0, .ref 467), (1, .int a1)], [], w1)
  refine P_aload_n d_MD_size_5 rfl ?_
  refine P_iload_n d_MD_size_6 rfl ?_
  refine P_callV (M := M_MD_size) (pc := 7) (as := [.int a1]) (b := 467) d_MD_size_7 co_MD_isMap ok_Model s1 L_MD_241 im_MD_isMap se_MD_isMap (s_MD_isMap a1 s1 htp hqs hun ((hF1.2 _ (SN_f (by omega))).trans en) hnm e8 hnp e9) rfl ⟨by decide, by decide⟩ ⟨by decide, by decide⟩ (by exact le_b rfl) ?_ _ rfl
  rintro _ u ⟨rfl, eu⟩
  subst u
  show PW _ _ _ _ _ _ (10, [(0, .ref 467), (1, .int a1)], [.int (bi (inN nm a1))], w1)
  refine P_if_eq 21 d_MD_size_10 (by decide) (fun c3 => ?_) (fun c3 => ?_)
  · refine P_iconst (v := (-1)) d_MD_size_21 (by decide) ?_
    exact P_iret d_MD_size_22 rfl (le_b rfl) (le_b rfl) ⟨⟨_, rfl⟩, hI1, FrM.of hF1 ⟨_, _, _, _, em⟩ ⟨_, _, _, _, s1⟩⟩
  · obtain ⟨a1N, ha1N, rfl⟩ := inN_of (bi_1 c3) (by omega)
    refine P_aload_n d_MD_size_13 rfl ?_
    refine P_iload_n d_MD_size_14 rfl ?_
    refine P_callV (M := M_MD_size) (pc := 15) (as := [.int (nI a1N)]) (b := 467) d_MD_size_15 co_MD_sizeOf ok_Model s1 L_MD_464 im_MD_sizeOf se_MD_sizeOf (s_MD_sizeOf a1N (by omega) s1 htp hqs hun ((hF1.2 _ (SN_f (by omega))).trans en) hnm e8 hnp e9) rfl ⟨by decide, by decide⟩ ⟨by decide, by decide⟩ (by exact le_b rfl) ?_ _ rfl
    rintro _ u ⟨⟨v4, rfl⟩, eu⟩
    subst u
    show PW _ _ _ _ _ _ (18, [(0, .ref 467), (1, .int (nI a1N))], [.int v4], w1)
    refine P_goto 22 d_MD_size_18 (by decide) ?_
    exact P_iret d_MD_size_22 rfl (le_b rfl) (le_b rfl) ⟨⟨_, rfl⟩, hI1, FrM.of hF1 ⟨_, _, _, _, em⟩ ⟨_, _, _, _, s1⟩⟩
theorem s_MD_corner {G : pG} {w : pW} (hI : I w) (a1 : Int32) (a2 : Int32) (a3 : Int32) : PM G M_MD_corner 1 0 0 [.ref 467, .int a1, .int a2, .int a3] w (fun r w' => (∃ v, r = some (.int v)) ∧ I w' ∧ FrM w w') := by
  refine PM_of pn_MD_corner (le_b rfl) ?_
  show PW _ _ _ _ _ _ (0, [(0, .ref 467), (1, .int a1), (2, .int a2), (3, .int a3)], [], w)
  obtain ⟨tp, qs, un, nq, ln, nl, sz, at_, pl, so, vl, wo, fa, fp, lf, lp, th, rm, um, sm, htp, hqs, hun, em⟩ := hI.md
  obtain ⟨fn, nm, np, en, hnm, e8, hnp, e9⟩ := hI.now
  obtain ⟨f469, r469⟩ := hI.ints (r := 469) (by decide) kc_469
  refine P_aload_n d_MD_corner_0 rfl ?_
  refine P_iconst (v := 0) d_MD_corner_1 (by decide) ?_
  refine P_putG (i := 0) d_MD_corner_2 ok_Model (by decide) rfl L_MD_74 em (fun _ => rfl) (fun _ => rfl) (fun w1 e1 s1 n1 z1 => ?_)
  have hI1 : I w1 := hI.setM (show w1 = (_, wu _ 467 (mO (nI tp) (nI qs) nq (nI un) ln nl sz at_ pl so vl wo fa fp lf lp 0 rm um sm)) from e1) htp hqs hun
  have hF1 : Fr SN w w1 := Fr.set Fr.rf e1 (SN_t (by omega))
  show PW _ _ _ _ _ _ (5, [(0, .ref 467), (1, .int a1), (2, .int a2), (3, .int a3)], [], w1)
  refine P_aload_n d_MD_corner_5 rfl ?_
  refine P_iload_n d_MD_corner_6 rfl ?_
  refine P_callV (M := M_MD_corner) (pc := 7) (as := [.int a1]) (b := 467) d_MD_corner_7 co_MD_isQuad ok_Model s1 L_MD_238 im_MD_isQuad se_MD_isQuad (s_MD_isQuad a1 s1 htp hqs hun) rfl ⟨by decide, by decide⟩ ⟨by decide, by decide⟩ (by exact le_b rfl) ?_ _ rfl
  rintro _ u ⟨rfl, eu⟩
  subst u
  show PW _ _ _ _ _ _ (10, [(0, .ref 467), (1, .int a1), (2, .int a2), (3, .int a3)], [.int (bi (inN qs a1))], w1)
  refine P_if_eq 22 d_MD_corner_10 (by decide) (fun c3 => ?_) (fun c3 => ?_)
  · refine P_aload_n d_MD_corner_22 rfl ?_
    refine P_iconst (v := 1) d_MD_corner_23 (by decide) ?_
    refine P_putG (i := 0) d_MD_corner_24 ok_Model (by decide) rfl L_MD_74 s1 (fun _ => rfl) (fun _ => rfl) (fun w4 e4 s4 n4 z4 => ?_)
    have hI4 : I w4 := hI1.setM (show w4 = (_, wu _ 467 (mO (nI tp) (nI qs) nq (nI un) ln nl sz at_ pl so vl wo fa fp lf lp 1 rm um sm)) from e4) htp hqs hun
    have hF4 : Fr SN w w4 := Fr.set hF1 e4 (SN_t (by omega))
    show PW _ _ _ _ _ _ (27, [(0, .ref 467), (1, .int a1), (2, .int a2), (3, .int a3)], [], w4)
    refine P_iconst (v := 0) d_MD_corner_27 (by decide) ?_
    exact P_iret d_MD_corner_28 rfl (le_b rfl) (le_b rfl) ⟨⟨_, rfl⟩, hI4, FrM.of hF4 ⟨_, _, _, _, em⟩ ⟨_, _, _, _, s4⟩⟩
  · obtain ⟨a1N, ha1N, rfl⟩ := inN_of (bi_1 c3) (by omega)
    refine P_iload_n d_MD_corner_13 rfl ?_
    refine P_if_lt 22 d_MD_corner_14 (by decide) (fun c5 => ?_) (fun c5 => ?_)
    · refine P_aload_n d_MD_corner_22 rfl ?_
      refine P_iconst (v := 1) d_MD_corner_23 (by decide) ?_
      refine P_putG (i := 0) d_MD_corner_24 ok_Model (by decide) rfl L_MD_74 s1 (fun _ => rfl) (fun _ => rfl) (fun w6 e6 s6 n6 z6 => ?_)
      have hI6 : I w6 := hI1.setM (show w6 = (_, wu _ 467 (mO (nI tp) (nI qs) nq (nI un) ln nl sz at_ pl so vl wo fa fp lf lp 1 rm um sm)) from e6) htp hqs hun
      have hF6 : Fr SN w w6 := Fr.set hF1 e6 (SN_t (by omega))
      show PW _ _ _ _ _ _ (27, [(0, .ref 467), (1, .int (nI a1N)), (2, .int a2), (3, .int a3)], [], w6)
      refine P_iconst (v := 0) d_MD_corner_27 (by decide) ?_
      exact P_iret d_MD_corner_28 rfl (le_b rfl) (le_b rfl) ⟨⟨_, rfl⟩, hI6, FrM.of hF6 ⟨_, _, _, _, em⟩ ⟨_, _, _, _, s6⟩⟩
    · refine P_iload_n d_MD_corner_17 rfl ?_
      refine P_iconst (v := 3) d_MD_corner_18 (by decide) ?_
      refine P_icmp_le 29 d_MD_corner_19 (by decide) (fun c7 => ?_) (fun c7 => ?_)
      · obtain ⟨a2N, ha2N, rfl⟩ := nI_of_le (n := 3) c5 c7 rfl
        refine P_iload_n d_MD_corner_29 rfl ?_
        refine P_if_lt 38 d_MD_corner_30 (by decide) (fun c8 => ?_) (fun c8 => ?_)
        · refine P_aload_n d_MD_corner_38 rfl ?_
          refine P_iconst (v := 2) d_MD_corner_39 (by decide) ?_
          refine P_putG (i := 0) d_MD_corner_40 ok_Model (by decide) rfl L_MD_74 s1 (fun _ => rfl) (fun _ => rfl) (fun w9 e9 s9 n9 z9 => ?_)
          have hI9 : I w9 := hI1.setM (show w9 = (_, wu _ 467 (mO (nI tp) (nI qs) nq (nI un) ln nl sz at_ pl so vl wo fa fp lf lp 2 rm um sm)) from e9) htp hqs hun
          have hF9 : Fr SN w w9 := Fr.set hF1 e9 (SN_t (by omega))
          show PW _ _ _ _ _ _ (43, [(0, .ref 467), (1, .int (nI a1N)), (2, .int (nI a2N)), (3, .int a3)], [], w9)
          refine P_iconst (v := 0) d_MD_corner_43 (by decide) ?_
          exact P_iret d_MD_corner_44 rfl (le_b rfl) (le_b rfl) ⟨⟨_, rfl⟩, hI9, FrM.of hF9 ⟨_, _, _, _, em⟩ ⟨_, _, _, _, s9⟩⟩
        · refine P_iload_n d_MD_corner_33 rfl ?_
          refine P_iconst (v := 1) d_MD_corner_34 (by decide) ?_
          refine P_icmp_le 45 d_MD_corner_35 (by decide) (fun c10 => ?_) (fun c10 => ?_)
          · obtain ⟨a3N, ha3N, rfl⟩ := nI_of_le (n := 1) c8 c10 rfl
            refine P_aload_n d_MD_corner_45 rfl ?_
            refine P_getf (i := 3) d_MD_corner_46 ok_Model (by decide) L_MD_15 s1 rfl ?_
            refine P_bipush (v := 8) d_MD_corner_49 (by decide) ?_
            refine P_iload_n d_MD_corner_51 rfl ?_
            refine P_imulN (a := 8) (b := a1N) d_MD_corner_52 ?_
            show PW _ _ _ _ _ _ (53, [(0, .ref 467), (1, .int (nI a1N)), (2, .int (nI a2N)), (3, .int (nI a3N))], [.int (nI (8 * a1N)), .ref 469], w1)
            refine P_iconst (v := 2) d_MD_corner_53 (by decide) ?_
            refine P_iload_n d_MD_corner_54 rfl ?_
            refine P_imulN (a := 2) (b := a2N) d_MD_corner_55 ?_
            show PW _ _ _ _ _ _ (56, [(0, .ref 467), (1, .int (nI a1N)), (2, .int (nI a2N)), (3, .int (nI a3N))], [.int (nI (2 * a2N)), .int (nI (8 * a1N)), .ref 469], w1)
            refine P_iaddN (a := (8 * a1N)) (b := (2 * a2N)) d_MD_corner_56 ?_
            show PW _ _ _ _ _ _ (57, [(0, .ref 467), (1, .int (nI a1N)), (2, .int (nI a2N)), (3, .int (nI a3N))], [.int (nI ((8 * a1N) + (2 * a2N))), .ref 469], w1)
            refine P_iload_n d_MD_corner_57 rfl ?_
            refine P_iaddN (a := ((8 * a1N) + (2 * a2N))) (b := a3N) d_MD_corner_58 ?_
            show PW _ _ _ _ _ _ (59, [(0, .ref 467), (1, .int (nI a1N)), (2, .int (nI a2N)), (3, .int (nI a3N))], [.int (nI (((8 * a1N) + (2 * a2N)) + a3N)), .ref 469], w1)
            refine P_iald (j := ((8 * a1N) + (2 * a2N)) + a3N) d_MD_corner_59 ((hF1.2 _ (SN_f (by omega))).trans r469) (ix_nI (by omega)) (by omega) ?_
            exact P_iret d_MD_corner_60 rfl (le_b rfl) (le_b rfl) ⟨⟨_, rfl⟩, hI1, FrM.of hF1 ⟨_, _, _, _, em⟩ ⟨_, _, _, _, s1⟩⟩
          · refine P_aload_n d_MD_corner_38 rfl ?_
            refine P_iconst (v := 2) d_MD_corner_39 (by decide) ?_
            refine P_putG (i := 0) d_MD_corner_40 ok_Model (by decide) rfl L_MD_74 s1 (fun _ => rfl) (fun _ => rfl) (fun w11 e11 s11 n11 z11 => ?_)
            have hI11 : I w11 := hI1.setM (show w11 = (_, wu _ 467 (mO (nI tp) (nI qs) nq (nI un) ln nl sz at_ pl so vl wo fa fp lf lp 2 rm um sm)) from e11) htp hqs hun
            have hF11 : Fr SN w w11 := Fr.set hF1 e11 (SN_t (by omega))
            show PW _ _ _ _ _ _ (43, [(0, .ref 467), (1, .int (nI a1N)), (2, .int (nI a2N)), (3, .int a3)], [], w11)
            refine P_iconst (v := 0) d_MD_corner_43 (by decide) ?_
            exact P_iret d_MD_corner_44 rfl (le_b rfl) (le_b rfl) ⟨⟨_, rfl⟩, hI11, FrM.of hF11 ⟨_, _, _, _, em⟩ ⟨_, _, _, _, s11⟩⟩
      · refine P_aload_n d_MD_corner_22 rfl ?_
        refine P_iconst (v := 1) d_MD_corner_23 (by decide) ?_
        refine P_putG (i := 0) d_MD_corner_24 ok_Model (by decide) rfl L_MD_74 s1 (fun _ => rfl) (fun _ => rfl) (fun w12 e12 s12 n12 z12 => ?_)
        have hI12 : I w12 := hI1.setM (show w12 = (_, wu _ 467 (mO (nI tp) (nI qs) nq (nI un) ln nl sz at_ pl so vl wo fa fp lf lp 1 rm um sm)) from e12) htp hqs hun
        have hF12 : Fr SN w w12 := Fr.set hF1 e12 (SN_t (by omega))
        show PW _ _ _ _ _ _ (27, [(0, .ref 467), (1, .int (nI a1N)), (2, .int a2), (3, .int a3)], [], w12)
        refine P_iconst (v := 0) d_MD_corner_27 (by decide) ?_
        exact P_iret d_MD_corner_28 rfl (le_b rfl) (le_b rfl) ⟨⟨_, rfl⟩, hI12, FrM.of hF12 ⟨_, _, _, _, em⟩ ⟨_, _, _, _, s12⟩⟩
theorem s_MD_map {G : pG} {w : pW} (hI : I w) (a1 : Int32) (a2 : Int32) (a3 : Int32) : PM G M_MD_map 1 0 0 [.ref 467, .int a1, .int a2, .int a3] w (fun r w' => (∃ v, r = some (.int v)) ∧ I w' ∧ FrM w w') := by
  refine PM_of pn_MD_map (le_b rfl) ?_
  show PW _ _ _ _ _ _ (0, [(0, .ref 467), (1, .int a1), (2, .int a2), (3, .int a3)], [], w)
  obtain ⟨tp, qs, un, nq, ln, nl, sz, at_, pl, so, vl, wo, fa, fp, lf, lp, th, rm, um, sm, htp, hqs, hun, em⟩ := hI.md
  obtain ⟨fn, nm, np, en, hnm, e8, hnp, e9⟩ := hI.now
  refine P_aload_n d_MD_map_0 rfl ?_
  refine P_iconst (v := 0) d_MD_map_1 (by decide) ?_
  refine P_putG (i := 0) d_MD_map_2 ok_Model (by decide) rfl L_MD_74 em (fun _ => rfl) (fun _ => rfl) (fun w1 e1 s1 n1 z1 => ?_)
  have hI1 : I w1 := hI.setM (show w1 = (_, wu _ 467 (mO (nI tp) (nI qs) nq (nI un) ln nl sz at_ pl so vl wo fa fp lf lp 0 rm um sm)) from e1) htp hqs hun
  have hF1 : Fr SN w w1 := Fr.set Fr.rf e1 (SN_t (by omega))
  show PW _ _ _ _ _ _ (5, [(0, .ref 467), (1, .int a1), (2, .int a2), (3, .int a3)], [], w1)
  refine P_aload_n d_MD_map_5 rfl ?_
  refine P_iload_n d_MD_map_6 rfl ?_
  refine P_callV (M := M_MD_map) (pc := 7) (as := [.int a1]) (b := 467) d_MD_map_7 co_MD_isMap ok_Model s1 L_MD_241 im_MD_isMap se_MD_isMap (s_MD_isMap a1 s1 htp hqs hun ((hF1.2 _ (SN_f (by omega))).trans en) hnm e8 hnp e9) rfl ⟨by decide, by decide⟩ ⟨by decide, by decide⟩ (by exact le_b rfl) ?_ _ rfl
  rintro _ u ⟨rfl, eu⟩
  subst u
  show PW _ _ _ _ _ _ (10, [(0, .ref 467), (1, .int a1), (2, .int a2), (3, .int a3)], [.int (bi (inN nm a1))], w1)
  refine P_if_ne 20 d_MD_map_10 (by decide) (fun c3 => ?_) (fun c3 => ?_)
  · obtain ⟨a1N, ha1N, rfl⟩ := inN_of (bi_1 c3) (by omega)
    refine P_iload_n d_MD_map_20 rfl ?_
    refine P_callS (M := M_MD_map) (pc := 21) (as := [.int a2]) d_MD_map_21 co_MD_isThird L_MD_244 sm_MD_isThird (s_MD_isThird a2) rfl ⟨by decide, by decide⟩ ⟨by decide, by decide⟩ (by exact le_b rfl) ?_ _ rfl
    rintro _ u ⟨rfl, eu⟩
    subst u
    show PW _ _ _ _ _ _ (24, [(0, .ref 467), (1, .int (nI a1N)), (2, .int a2), (3, .int a3)], [.int (bi (inN 3 a2))], w1)
    refine P_if_eq 34 d_MD_map_24 (by decide) (fun c5 => ?_) (fun c5 => ?_)
    · refine P_aload_n d_MD_map_34 rfl ?_
      refine P_iconst (v := 2) d_MD_map_35 (by decide) ?_
      refine P_putG (i := 0) d_MD_map_36 ok_Model (by decide) rfl L_MD_74 s1 (fun _ => rfl) (fun _ => rfl) (fun w6 e6 s6 n6 z6 => ?_)
      have hI6 : I w6 := hI1.setM (show w6 = (_, wu _ 467 (mO (nI tp) (nI qs) nq (nI un) ln nl sz at_ pl so vl wo fa fp lf lp 2 rm um sm)) from e6) htp hqs hun
      have hF6 : Fr SN w w6 := Fr.set hF1 e6 (SN_t (by omega))
      show PW _ _ _ _ _ _ (39, [(0, .ref 467), (1, .int (nI a1N)), (2, .int a2), (3, .int a3)], [], w6)
      refine P_iconst (v := 0) d_MD_map_39 (by decide) ?_
      exact P_iret d_MD_map_40 rfl (le_b rfl) (le_b rfl) ⟨⟨_, rfl⟩, hI6, FrM.of hF6 ⟨_, _, _, _, em⟩ ⟨_, _, _, _, s6⟩⟩
    · obtain ⟨a2N, ha2N, rfl⟩ := inN_of (bi_1 c5) (by omega)
      refine P_iload_n d_MD_map_27 rfl ?_
      refine P_callS (M := M_MD_map) (pc := 28) (as := [.int a3]) d_MD_map_28 co_MD_isThird L_MD_244 sm_MD_isThird (s_MD_isThird a3) rfl ⟨by decide, by decide⟩ ⟨by decide, by decide⟩ (by exact le_b rfl) ?_ _ rfl
      rintro _ u ⟨rfl, eu⟩
      subst u
      show PW _ _ _ _ _ _ (31, [(0, .ref 467), (1, .int (nI a1N)), (2, .int (nI a2N)), (3, .int a3)], [.int (bi (inN 3 a3))], w1)
      refine P_if_ne 41 d_MD_map_31 (by decide) (fun c8 => ?_) (fun c8 => ?_)
      · obtain ⟨a3N, ha3N, rfl⟩ := inN_of (bi_1 c8) (by omega)
        refine P_aload_n d_MD_map_41 rfl ?_
        refine P_getf (i := 7) d_MD_map_42 ok_Model (by decide) L_MD_21 s1 rfl ?_
        refine P_bipush (v := 9) d_MD_map_45 (by decide) ?_
        refine P_iload_n d_MD_map_47 rfl ?_
        refine P_imulN (a := 9) (b := a1N) d_MD_map_48 ?_
        show PW _ _ _ _ _ _ (49, [(0, .ref 467), (1, .int (nI a1N)), (2, .int (nI a2N)), (3, .int (nI a3N))], [.int (nI (9 * a1N)), .ref 471], w1)
        refine P_iconst (v := 3) d_MD_map_49 (by decide) ?_
        refine P_iload_n d_MD_map_50 rfl ?_
        refine P_imulN (a := 3) (b := a2N) d_MD_map_51 ?_
        show PW _ _ _ _ _ _ (52, [(0, .ref 467), (1, .int (nI a1N)), (2, .int (nI a2N)), (3, .int (nI a3N))], [.int (nI (3 * a2N)), .int (nI (9 * a1N)), .ref 471], w1)
        refine P_iaddN (a := (9 * a1N)) (b := (3 * a2N)) d_MD_map_52 ?_
        show PW _ _ _ _ _ _ (53, [(0, .ref 467), (1, .int (nI a1N)), (2, .int (nI a2N)), (3, .int (nI a3N))], [.int (nI ((9 * a1N) + (3 * a2N))), .ref 471], w1)
        refine P_iload_n d_MD_map_53 rfl ?_
        refine P_iaddN (a := ((9 * a1N) + (3 * a2N))) (b := a3N) d_MD_map_54 ?_
        show PW _ _ _ _ _ _ (55, [(0, .ref 467), (1, .int (nI a1N)), (2, .int (nI a2N)), (3, .int (nI a3N))], [.int (nI (((9 * a1N) + (3 * a2N)) + a3N)), .ref 471], w1)
        refine P_lald (j := ((9 * a1N) + (3 * a2N)) + a3N) d_MD_map_55 ((hF1.2 _ (SN_f (by omega))).trans en) (ix_nI (by omega)) (by omega) ?_
        refine P_l2i d_MD_map_56 ?_
        exact P_iret d_MD_map_57 rfl (le_b rfl) (le_b rfl) ⟨⟨_, rfl⟩, hI1, FrM.of hF1 ⟨_, _, _, _, em⟩ ⟨_, _, _, _, s1⟩⟩
      · refine P_aload_n d_MD_map_34 rfl ?_
        refine P_iconst (v := 2) d_MD_map_35 (by decide) ?_
        refine P_putG (i := 0) d_MD_map_36 ok_Model (by decide) rfl L_MD_74 s1 (fun _ => rfl) (fun _ => rfl) (fun w9 e9 s9 n9 z9 => ?_)
        have hI9 : I w9 := hI1.setM (show w9 = (_, wu _ 467 (mO (nI tp) (nI qs) nq (nI un) ln nl sz at_ pl so vl wo fa fp lf lp 2 rm um sm)) from e9) htp hqs hun
        have hF9 : Fr SN w w9 := Fr.set hF1 e9 (SN_t (by omega))
        show PW _ _ _ _ _ _ (39, [(0, .ref 467), (1, .int (nI a1N)), (2, .int (nI a2N)), (3, .int a3)], [], w9)
        refine P_iconst (v := 0) d_MD_map_39 (by decide) ?_
        exact P_iret d_MD_map_40 rfl (le_b rfl) (le_b rfl) ⟨⟨_, rfl⟩, hI9, FrM.of hF9 ⟨_, _, _, _, em⟩ ⟨_, _, _, _, s9⟩⟩
  · refine P_aload_n d_MD_map_13 rfl ?_
    refine P_iconst (v := 1) d_MD_map_14 (by decide) ?_
    refine P_putG (i := 0) d_MD_map_15 ok_Model (by decide) rfl L_MD_74 s1 (fun _ => rfl) (fun _ => rfl) (fun w10 e10 s10 n10 z10 => ?_)
    have hI10 : I w10 := hI1.setM (show w10 = (_, wu _ 467 (mO (nI tp) (nI qs) nq (nI un) ln nl sz at_ pl so vl wo fa fp lf lp 1 rm um sm)) from e10) htp hqs hun
    have hF10 : Fr SN w w10 := Fr.set hF1 e10 (SN_t (by omega))
    show PW _ _ _ _ _ _ (18, [(0, .ref 467), (1, .int a1), (2, .int a2), (3, .int a3)], [], w10)
    refine P_iconst (v := 0) d_MD_map_18 (by decide) ?_
    exact P_iret d_MD_map_19 rfl (le_b rfl) (le_b rfl) ⟨⟨_, rfl⟩, hI10, FrM.of hF10 ⟨_, _, _, _, em⟩ ⟨_, _, _, _, s10⟩⟩
theorem s_MD_point {G : pG} {w : pW} (hI : I w) (a1 : Int32) (a2 : Int32) : PM G M_MD_point 1 0 0 [.ref 467, .int a1, .int a2] w (fun r w' => (∃ v, r = some (.int v)) ∧ I w' ∧ FrM w w') := by
  refine PM_of pn_MD_point (le_b rfl) ?_
  show PW _ _ _ _ _ _ (0, [(0, .ref 467), (1, .int a1), (2, .int a2)], [], w)
  obtain ⟨tp, qs, un, nq, ln, nl, sz, at_, pl, so, vl, wo, fa, fp, lf, lp, th, rm, um, sm, htp, hqs, hun, em⟩ := hI.md
  obtain ⟨fn, nm, np, en, hnm, e8, hnp, e9⟩ := hI.now
  refine P_aload_n d_MD_point_0 rfl ?_
  refine P_iconst (v := 0) d_MD_point_1 (by decide) ?_
  refine P_putG (i := 0) d_MD_point_2 ok_Model (by decide) rfl L_MD_74 em (fun _ => rfl) (fun _ => rfl) (fun w1 e1 s1 n1 z1 => ?_)
  have hI1 : I w1 := hI.setM (show w1 = (_, wu _ 467 (mO (nI tp) (nI qs) nq (nI un) ln nl sz at_ pl so vl wo fa fp lf lp 0 rm um sm)) from e1) htp hqs hun
  have hF1 : Fr SN w w1 := Fr.set Fr.rf e1 (SN_t (by omega))
  show PW _ _ _ _ _ _ (5, [(0, .ref 467), (1, .int a1), (2, .int a2)], [], w1)
  refine P_aload_n d_MD_point_5 rfl ?_
  refine P_iload_n d_MD_point_6 rfl ?_
  refine P_callV (M := M_MD_point) (pc := 7) (as := [.int a1]) (b := 467) d_MD_point_7 co_MD_isPoint ok_Model s1 L_MD_247 im_MD_isPoint se_MD_isPoint (s_MD_isPoint a1 s1 htp hqs hun ((hF1.2 _ (SN_f (by omega))).trans en) hnm e8 hnp e9) rfl ⟨by decide, by decide⟩ ⟨by decide, by decide⟩ (by exact le_b rfl) ?_ _ rfl
  rintro _ u ⟨rfl, eu⟩
  subst u
  show PW _ _ _ _ _ _ (10, [(0, .ref 467), (1, .int a1), (2, .int a2)], [.int (bi (inN np a1))], w1)
  refine P_if_ne 20 d_MD_point_10 (by decide) (fun c3 => ?_) (fun c3 => ?_)
  · obtain ⟨a1N, ha1N, rfl⟩ := inN_of (bi_1 c3) (by omega)
    refine P_iload_n d_MD_point_20 rfl ?_
    refine P_callS (M := M_MD_point) (pc := 21) (as := [.int a2]) d_MD_point_21 co_MD_isThird L_MD_244 sm_MD_isThird (s_MD_isThird a2) rfl ⟨by decide, by decide⟩ ⟨by decide, by decide⟩ (by exact le_b rfl) ?_ _ rfl
    rintro _ u ⟨rfl, eu⟩
    subst u
    show PW _ _ _ _ _ _ (24, [(0, .ref 467), (1, .int (nI a1N)), (2, .int a2)], [.int (bi (inN 3 a2))], w1)
    refine P_if_ne 34 d_MD_point_24 (by decide) (fun c5 => ?_) (fun c5 => ?_)
    · obtain ⟨a2N, ha2N, rfl⟩ := inN_of (bi_1 c5) (by omega)
      refine P_aload_n d_MD_point_34 rfl ?_
      refine P_iload_n d_MD_point_35 rfl ?_
      refine P_iload_n d_MD_point_36 rfl ?_
      refine P_callV (M := M_MD_point) (pc := 37) (as := [.int (nI a1N), .int (nI a2N)]) (b := 467) d_MD_point_37 co_MD_pointOf ok_Model s1 L_MD_250 im_MD_pointOf se_MD_pointOf (s_MD_pointOf a1N (by omega) a2N (by omega) s1 htp hqs hun ((hF1.2 _ (SN_f (by omega))).trans en) hnm e8 hnp e9) rfl ⟨by decide, by decide⟩ ⟨by decide, by decide⟩ (by exact le_b rfl) ?_ _ rfl
      rintro _ u ⟨⟨v6, rfl⟩, eu⟩
      subst u
      show PW _ _ _ _ _ _ (40, [(0, .ref 467), (1, .int (nI a1N)), (2, .int (nI a2N))], [.long v6], w1)
      refine P_l2i d_MD_point_40 ?_
      exact P_iret d_MD_point_41 rfl (le_b rfl) (le_b rfl) ⟨⟨_, rfl⟩, hI1, FrM.of hF1 ⟨_, _, _, _, em⟩ ⟨_, _, _, _, s1⟩⟩
    · refine P_aload_n d_MD_point_27 rfl ?_
      refine P_iconst (v := 2) d_MD_point_28 (by decide) ?_
      refine P_putG (i := 0) d_MD_point_29 ok_Model (by decide) rfl L_MD_74 s1 (fun _ => rfl) (fun _ => rfl) (fun w7 e7 s7 n7 z7 => ?_)
      have hI7 : I w7 := hI1.setM (show w7 = (_, wu _ 467 (mO (nI tp) (nI qs) nq (nI un) ln nl sz at_ pl so vl wo fa fp lf lp 2 rm um sm)) from e7) htp hqs hun
      have hF7 : Fr SN w w7 := Fr.set hF1 e7 (SN_t (by omega))
      show PW _ _ _ _ _ _ (32, [(0, .ref 467), (1, .int (nI a1N)), (2, .int a2)], [], w7)
      refine P_iconst (v := 0) d_MD_point_32 (by decide) ?_
      exact P_iret d_MD_point_33 rfl (le_b rfl) (le_b rfl) ⟨⟨_, rfl⟩, hI7, FrM.of hF7 ⟨_, _, _, _, em⟩ ⟨_, _, _, _, s7⟩⟩
  · refine P_aload_n d_MD_point_13 rfl ?_
    refine P_iconst (v := 1) d_MD_point_14 (by decide) ?_
    refine P_putG (i := 0) d_MD_point_15 ok_Model (by decide) rfl L_MD_74 s1 (fun _ => rfl) (fun _ => rfl) (fun w8 e8 s8 n8 z8 => ?_)
    have hI8 : I w8 := hI1.setM (show w8 = (_, wu _ 467 (mO (nI tp) (nI qs) nq (nI un) ln nl sz at_ pl so vl wo fa fp lf lp 1 rm um sm)) from e8) htp hqs hun
    have hF8 : Fr SN w w8 := Fr.set hF1 e8 (SN_t (by omega))
    show PW _ _ _ _ _ _ (18, [(0, .ref 467), (1, .int a1), (2, .int a2)], [], w8)
    refine P_iconst (v := 0) d_MD_point_18 (by decide) ?_
    exact P_iret d_MD_point_19 rfl (le_b rfl) (le_b rfl) ⟨⟨_, rfl⟩, hI8, FrM.of hF8 ⟨_, _, _, _, em⟩ ⟨_, _, _, _, s8⟩⟩
theorem s_MD_fault {G : pG} {w : pW} (hI : I w) (a1 : Int32) : PM G M_MD_fault 0 0 0 [.ref 467, .int a1] w (fun r w' => (∃ v, r = some (.int v)) ∧ I w' ∧ FrM w w') := by
  refine PM_of pn_MD_fault (le_b rfl) ?_
  show PW _ _ _ _ _ _ (0, [(0, .ref 467), (1, .int a1)], [], w)
  obtain ⟨tp, qs, un, nq, ln, nl, sz, at_, pl, so, vl, wo, fa, fp, lf, lp, th, rm, um, sm, htp, hqs, hun, em⟩ := hI.md
  obtain ⟨fn, nm, np, en, hnm, e8, hnp, e9⟩ := hI.now
  refine P_aload_n d_MD_fault_0 rfl ?_
  refine P_iconst (v := 0) d_MD_fault_1 (by decide) ?_
  refine P_putG (i := 0) d_MD_fault_2 ok_Model (by decide) rfl L_MD_74 em (fun _ => rfl) (fun _ => rfl) (fun w1 e1 s1 n1 z1 => ?_)
  have hI1 : I w1 := hI.setM (show w1 = (_, wu _ 467 (mO (nI tp) (nI qs) nq (nI un) ln nl sz at_ pl so vl wo fa fp lf lp 0 rm um sm)) from e1) htp hqs hun
  have hF1 : Fr SN w w1 := Fr.set Fr.rf e1 (SN_t (by omega))
  show PW _ _ _ _ _ _ (5, [(0, .ref 467), (1, .int a1)], [], w1)
  refine P_iload_n d_MD_fault_5 rfl ?_
  refine P_if_ne 16 d_MD_fault_6 (by decide) (fun c2 => ?_) (fun c2 => ?_)
  · refine P_iload_n d_MD_fault_16 rfl ?_
    refine P_iconst (v := 1) d_MD_fault_17 (by decide) ?_
    refine P_icmp_ne 28 d_MD_fault_18 (by decide) (fun c3 => ?_) (fun c3 => ?_)
    · refine P_iconst (v := (-1)) d_MD_fault_28 (by decide) ?_
      exact P_iret d_MD_fault_29 rfl (le_b rfl) (le_b rfl) ⟨⟨_, rfl⟩, hI1, FrM.of hF1 ⟨_, _, _, _, em⟩ ⟨_, _, _, _, s1⟩⟩
    · refine P_aload_n d_MD_fault_21 rfl ?_
      refine P_getf (i := 24) d_MD_fault_22 ok_Model (by decide) L_MD_37 s1 rfl ?_
      refine P_goto 29 d_MD_fault_25 (by decide) ?_
      exact P_iret d_MD_fault_29 rfl (le_b rfl) (le_b rfl) ⟨⟨_, rfl⟩, hI1, FrM.of hF1 ⟨_, _, _, _, em⟩ ⟨_, _, _, _, s1⟩⟩
  · refine P_aload_n d_MD_fault_9 rfl ?_
    refine P_getf (i := 23) d_MD_fault_10 ok_Model (by decide) L_MD_201 s1 rfl ?_
    refine P_goto 29 d_MD_fault_13 (by decide) ?_
    exact P_iret d_MD_fault_29 rfl (le_b rfl) (le_b rfl) ⟨⟨_, rfl⟩, hI1, FrM.of hF1 ⟨_, _, _, _, em⟩ ⟨_, _, _, _, s1⟩⟩
