/-! shapes: more of the reference (by program) -/
theorem s_MD_count {G : pG} {w : pW} (hI : I w) (a1 : Int32) : PM G M_MD_count 2 0 0 [.ref 467, .int a1] w (fun r w' => (∃ v, r = some (.int v)) ∧ I w' ∧ FrM w w') := by
  refine PM_of pn_MD_count (le_b rfl) ?_
  show PW _ _ _ _ _ _ (0, [(0, .ref 467), (1, .int a1)], [], w)
  obtain ⟨tp, qs, un, nq, ln, nl, sz, at_, pl, so, vl, wo, fa, fp, lf, lp, th, rm, um, sm, htp, hqs, hun, em⟩ := hI.md
  obtain ⟨fn, nm, np, en, hnm, e8, hnp, e9⟩ := hI.now
  refine P_aload_n d_MD_count_0 rfl ?_
  refine P_iconst (v := 0) d_MD_count_1 (by decide) ?_
  refine P_putG (i := 0) d_MD_count_2 ok_Model (by decide) rfl L_MD_74 em (fun _ => rfl) (fun _ => rfl) (fun w1 e1 s1 n1 z1 => ?_)
  have hI1 : I w1 := hI.setM (show w1 = (_, wu _ 467 (mO (nI tp) (nI qs) nq (nI un) ln nl sz at_ pl so vl wo fa fp lf lp 0 rm um sm)) from e1) htp hqs hun
  have hF1 : Fr SN w w1 := Fr.set Fr.rf e1 (SN_t (by omega))
  show PW _ _ _ _ _ _ (5, [(0, .ref 467), (1, .int a1)], [], w1)
  refine P_iload_n d_MD_count_5 rfl ?_
  by_cases t2 : a1 = 0
  · rw [t2]
    refine P_tswIn 48 d_MD_count_6 (by decide) (by decide) rfl (by decide) ?_
    refine P_aload_n d_MD_count_48 rfl ?_
    refine P_getf (i := 11) d_MD_count_49 ok_Model (by decide) L_MD_207 s1 rfl ?_
    exact P_iret d_MD_count_52 rfl (le_b rfl) (le_b rfl) ⟨⟨_, rfl⟩, hI1, FrM.of hF1 ⟨_, _, _, _, em⟩ ⟨_, _, _, _, s1⟩⟩
  by_cases t3 : a1 = 1
  · rw [t3]
    refine P_tswIn 53 d_MD_count_6 (by decide) (by decide) rfl (by decide) ?_
    refine P_aload_n d_MD_count_53 rfl ?_
    refine P_getf (i := 5) d_MD_count_54 ok_Model (by decide) L_MD_204 s1 rfl ?_
    exact P_iret d_MD_count_57 rfl (le_b rfl) (le_b rfl) ⟨⟨_, rfl⟩, hI1, FrM.of hF1 ⟨_, _, _, _, em⟩ ⟨_, _, _, _, s1⟩⟩
  by_cases t4 : a1 = 2
  · rw [t4]
    refine P_tswIn 58 d_MD_count_6 (by decide) (by decide) rfl (by decide) ?_
    refine P_aload_n d_MD_count_58 rfl ?_
    refine P_getf (i := 7) d_MD_count_59 ok_Model (by decide) L_MD_21 s1 rfl ?_
    refine P_sipush (v := 168) d_MD_count_62 (by decide) ?_
    refine P_lald (j := 168) d_MD_count_65 ((hF1.2 _ (SN_f (by omega))).trans en) ⟨by decide, by decide⟩ (by decide) ?_
    rw [e8]
    show PW _ _ _ _ _ _ (66, [(0, .ref 467), (1, .int 2)], [.long (lN nm)], w1)
    refine P_l2iN (n1 := nm) d_MD_count_66 ?_
    show PW _ _ _ _ _ _ (67, [(0, .ref 467), (1, .int 2)], [.int (nI nm)], w1)
    exact P_iret d_MD_count_67 rfl (le_b rfl) (le_b rfl) ⟨⟨_, rfl⟩, hI1, FrM.of hF1 ⟨_, _, _, _, em⟩ ⟨_, _, _, _, s1⟩⟩
  by_cases t5 : a1 = 3
  · rw [t5]
    refine P_tswIn 68 d_MD_count_6 (by decide) (by decide) rfl (by decide) ?_
    refine P_aload_n d_MD_count_68 rfl ?_
    refine P_getf (i := 7) d_MD_count_69 ok_Model (by decide) L_MD_21 s1 rfl ?_
    refine P_sipush (v := 169) d_MD_count_72 (by decide) ?_
    refine P_lald (j := 169) d_MD_count_75 ((hF1.2 _ (SN_f (by omega))).trans en) ⟨by decide, by decide⟩ (by decide) ?_
    rw [e9]
    show PW _ _ _ _ _ _ (76, [(0, .ref 467), (1, .int 3)], [.long (lN np)], w1)
    refine P_l2iN (n1 := np) d_MD_count_76 ?_
    show PW _ _ _ _ _ _ (77, [(0, .ref 467), (1, .int 3)], [.int (nI np)], w1)
    exact P_iret d_MD_count_77 rfl (le_b rfl) (le_b rfl) ⟨⟨_, rfl⟩, hI1, FrM.of hF1 ⟨_, _, _, _, em⟩ ⟨_, _, _, _, s1⟩⟩
  by_cases t6 : a1 = 4
  · rw [t6]
    refine P_tswIn 78 d_MD_count_6 (by decide) (by decide) rfl (by decide) ?_
    refine P_aload_n d_MD_count_78 rfl ?_
    refine P_callV (M := M_MD_count) (pc := 79) (as := []) (b := 467) d_MD_count_79 co_MD_finite ok_Model s1 L_MD_483 im_MD_finite se_MD_finite (s_MD_finite s1 htp hqs hun ((hF1.2 _ (SN_f (by omega))).trans en) hnm e8 hnp e9) rfl ⟨by decide, by decide⟩ ⟨by decide, by decide⟩ (by exact le_b rfl) ?_ _ rfl
    rintro _ u ⟨⟨v7, rfl⟩, eu⟩
    subst u
    show PW _ _ _ _ _ _ (82, [(0, .ref 467), (1, .int 4)], [.int v7], w1)
    exact P_iret d_MD_count_82 rfl (le_b rfl) (le_b rfl) ⟨⟨_, rfl⟩, hI1, FrM.of hF1 ⟨_, _, _, _, em⟩ ⟨_, _, _, _, s1⟩⟩
  by_cases t8 : a1 = 5
  · rw [t8]
    refine P_tswIn 83 d_MD_count_6 (by decide) (by decide) rfl (by decide) ?_
    refine P_aload_n d_MD_count_83 rfl ?_
    refine P_getf (i := 10) d_MD_count_84 ok_Model (by decide) L_MD_71 s1 rfl ?_
    exact P_iret d_MD_count_87 rfl (le_b rfl) (le_b rfl) ⟨⟨_, rfl⟩, hI1, FrM.of hF1 ⟨_, _, _, _, em⟩ ⟨_, _, _, _, s1⟩⟩
  by_cases t9 : a1 = 6
  · rw [t9]
    refine P_tswIn 88 d_MD_count_6 (by decide) (by decide) rfl (by decide) ?_
    refine P_aload_n d_MD_count_88 rfl ?_
    refine P_getf (i := 2) d_MD_count_89 ok_Model (by decide) L_MD_77 s1 rfl ?_
    exact P_iret d_MD_count_92 rfl (le_b rfl) (le_b rfl) ⟨⟨_, rfl⟩, hI1, FrM.of hF1 ⟨_, _, _, _, em⟩ ⟨_, _, _, _, s1⟩⟩
  refine P_tswOut 93 d_MD_count_6 (by simp only [← Int32.toInt_inj, Int32.reduceToInt] at t2 t3 t4 t5 t6 t8 t9; omega) (by decide) ?_
  refine P_iconst (v := (-1)) d_MD_count_93 (by decide) ?_
  exact P_iret d_MD_count_94 rfl (le_b rfl) (le_b rfl) ⟨⟨_, rfl⟩, hI1, FrM.of hF1 ⟨_, _, _, _, em⟩ ⟨_, _, _, _, s1⟩⟩
theorem s_MD_isPair {G : pG} {w : pW} (hI : I w) (a : Nat) (ha : a < 16) (b : Nat) (hb : b < 16) (x : Int32) : PM G M_MD_isPair 5 0 0 [.ref 467, .int (nI a), .int (nI b), .int x] w (fun r w' => (∃ v, r = some (.int (bi v))) ∧ I w' ∧ FrM w w') := by
  refine PM_of pn_MD_isPair (le_b rfl) ?_
  show PW _ _ _ _ _ _ (0, [(0, .ref 467), (1, .int (nI a)), (2, .int (nI b)), (3, .int x)], [], w)
  obtain ⟨tp, qs, un, nq, ln, nl, sz, at_, pl, so, vl, wo, fa, fp, lf, lp, th, rm, um, sm, htp, hqs, hun, em⟩ := hI.md
  obtain ⟨fn, nm, np, en, hnm, e8, hnp, e9⟩ := hI.now
  refine P_iload_n d_MD_isPair_0 rfl ?_
  refine P_if_ne 20 d_MD_isPair_1 (by decide) (fun c1 => ?_) (fun c1 => ?_)
  · refine P_iload_n d_MD_isPair_20 rfl ?_
    refine P_iconst (v := 2) d_MD_isPair_21 (by decide) ?_
    refine P_icmp_ne 41 d_MD_isPair_22 (by decide) (fun c2 => ?_) (fun c2 => ?_)
    · refine P_aload_n d_MD_isPair_41 rfl ?_
      refine P_iload_n d_MD_isPair_42 rfl ?_
      refine P_iload_n d_MD_isPair_43 rfl ?_
      refine P_callV (M := M_MD_isPair) (pc := 44) (as := [.int (nI a), .int (nI b)]) (b := 467) d_MD_isPair_44 co_MD_laysProduct ok_Model em L_MD_277 im_MD_laysProduct se_MD_laysProduct (s_MD_laysProduct hI a (by omega) b (by omega)) rfl ⟨by decide, by decide⟩ ⟨by decide, by decide⟩ (by exact le_b rfl) ?_ _ rfl
      rintro _ w3 ⟨rfl, hI3, hG3⟩
      have hF3 : Fr SN w w3 := Fr.tr Fr.rf hG3.1
      obtain ⟨th3, rm3, um3, sm3, em3⟩ := hG3.2 (nI tp) (nI qs) nq (nI un) ln nl sz at_ pl so vl wo fa fp lf lp ⟨_, _, _, _, em⟩
      show PW _ _ _ _ _ _ (47, [(0, .ref 467), (1, .int (nI a)), (2, .int (nI b)), (3, .int x)], [], w3)
      refine P_aload_n d_MD_isPair_47 rfl ?_
      obtain ⟨f4, f4e⟩ := hI3.row (r := 476) (by decide) kc_476
      refine P_callV (M := M_MD_isPair) (pc := 48) (as := []) (b := 467) d_MD_isPair_48 co_MD_isNothing ok_Model em3 L_MD_326 im_MD_isNothing se_MD_isNothing (s_MD_isNothing em3 htp hqs hun f4e) rfl ⟨by decide, by decide⟩ ⟨by decide, by decide⟩ (by exact le_b rfl) ?_ _ rfl
      rintro _ u ⟨⟨v5, rfl⟩, eu⟩
      subst u
      show PW _ _ _ _ _ _ (51, [(0, .ref 467), (1, .int (nI a)), (2, .int (nI b)), (3, .int x)], [.int (bi v5)], w3)
      exact P_zret d_MD_isPair_51 rfl (nar_bi _) (le_b rfl) (le_b rfl) ⟨⟨_, rfl⟩, hI3, FrM.of hF3 ⟨_, _, _, _, em⟩ ⟨_, _, _, _, em3⟩⟩
    · refine P_aload_n d_MD_isPair_25 rfl ?_
      refine P_iload_n d_MD_isPair_26 rfl ?_
      refine P_iload_n d_MD_isPair_27 rfl ?_
      refine P_callV (M := M_MD_isPair) (pc := 28) (as := [.int (nI a), .int (nI b)]) (b := 467) d_MD_isPair_28 co_MD_same ok_Model em L_MD_474 im_MD_same se_MD_same (s_MD_same hI (nI a) (nI b)) rfl ⟨by decide, by decide⟩ ⟨by decide, by decide⟩ (by exact le_b rfl) ?_ _ rfl
      rintro _ w6 ⟨⟨v6, rfl⟩, hI6, hG6⟩
      have hF6 : Fr SN w w6 := Fr.tr Fr.rf hG6.1
      obtain ⟨th6, rm6, um6, sm6, em6⟩ := hG6.2 (nI tp) (nI qs) nq (nI un) ln nl sz at_ pl so vl wo fa fp lf lp ⟨_, _, _, _, em⟩
      show PW _ _ _ _ _ _ (31, [(0, .ref 467), (1, .int (nI a)), (2, .int (nI b)), (3, .int x)], [.int v6], w6)
      refine P_iconst (v := 1) d_MD_isPair_31 (by decide) ?_
      refine P_icmp_ne 39 d_MD_isPair_32 (by decide) (fun c7 => ?_) (fun c7 => ?_)
      · refine P_iconst (v := 0) d_MD_isPair_39 (by decide) ?_
        exact P_zret d_MD_isPair_40 rfl rfl (le_b rfl) (le_b rfl) ⟨⟨false, rfl⟩, hI6, FrM.of hF6 ⟨_, _, _, _, em⟩ ⟨_, _, _, _, em6⟩⟩
      · refine P_iconst (v := 1) d_MD_isPair_35 (by decide) ?_
        refine P_goto 40 d_MD_isPair_36 (by decide) ?_
        exact P_zret d_MD_isPair_40 rfl rfl (le_b rfl) (le_b rfl) ⟨⟨true, rfl⟩, hI6, FrM.of hF6 ⟨_, _, _, _, em⟩ ⟨_, _, _, _, em6⟩⟩
  · refine P_aload_n d_MD_isPair_4 rfl ?_
    refine P_iload_n d_MD_isPair_5 rfl ?_
    refine P_iload_n d_MD_isPair_6 rfl ?_
    refine P_callV (M := M_MD_isPair) (pc := 7) (as := [.int (nI a), .int (nI b)]) (b := 467) d_MD_isPair_7 co_MD_commute ok_Model em L_MD_470 im_MD_commute se_MD_commute (s_MD_commute hI (nI a) (nI b)) rfl ⟨by decide, by decide⟩ ⟨by decide, by decide⟩ (by exact le_b rfl) ?_ _ rfl
    rintro _ w8 ⟨⟨v8, rfl⟩, hI8, hG8⟩
    have hF8 : Fr SN w w8 := Fr.tr Fr.rf hG8.1
    obtain ⟨th8, rm8, um8, sm8, em8⟩ := hG8.2 (nI tp) (nI qs) nq (nI un) ln nl sz at_ pl so vl wo fa fp lf lp ⟨_, _, _, _, em⟩
    show PW _ _ _ _ _ _ (10, [(0, .ref 467), (1, .int (nI a)), (2, .int (nI b)), (3, .int x)], [.int v8], w8)
    refine P_iconst (v := 1) d_MD_isPair_10 (by decide) ?_
    refine P_icmp_ne 18 d_MD_isPair_11 (by decide) (fun c9 => ?_) (fun c9 => ?_)
    · refine P_iconst (v := 0) d_MD_isPair_18 (by decide) ?_
      exact P_zret d_MD_isPair_19 rfl rfl (le_b rfl) (le_b rfl) ⟨⟨false, rfl⟩, hI8, FrM.of hF8 ⟨_, _, _, _, em⟩ ⟨_, _, _, _, em8⟩⟩
    · refine P_iconst (v := 1) d_MD_isPair_14 (by decide) ?_
      refine P_goto 19 d_MD_isPair_15 (by decide) ?_
      exact P_zret d_MD_isPair_19 rfl rfl (le_b rfl) (le_b rfl) ⟨⟨true, rfl⟩, hI8, FrM.of hF8 ⟨_, _, _, _, em⟩ ⟨_, _, _, _, em8⟩⟩
theorem s_MD_pairs {G : pG} {w : pW} (hI : I w) (a1 : Int32) : PM G M_MD_pairs 6 0 0 [.ref 467, .int a1] w (fun r w' => (∃ v, r = some (.int v)) ∧ I w' ∧ FrM w w') := by
  refine PM_of pn_MD_pairs (le_b rfl) ?_
  show PW _ _ _ _ _ _ (0, [(0, .ref 467), (1, .int a1)], [], w)
  obtain ⟨tp, qs, un, nq, ln, nl, sz, at_, pl, so, vl, wo, fa, fp, lf, lp, th, rm, um, sm, htp, hqs, hun, em⟩ := hI.md
  obtain ⟨fn, nm, np, en, hnm, e8, hnp, e9⟩ := hI.now
  refine P_aload_n d_MD_pairs_0 rfl ?_
  refine P_iconst (v := 0) d_MD_pairs_1 (by decide) ?_
  refine P_putG (i := 0) d_MD_pairs_2 ok_Model (by decide) rfl L_MD_74 em (fun _ => rfl) (fun _ => rfl) (fun w1 e1 s1 n1 z1 => ?_)
  have hI1 : I w1 := hI.setM (show w1 = (_, wu _ 467 (mO (nI tp) (nI qs) nq (nI un) ln nl sz at_ pl so vl wo fa fp lf lp 0 rm um sm)) from e1) htp hqs hun
  have hF1 : Fr SN w w1 := Fr.set Fr.rf e1 (SN_t (by omega))
  show PW _ _ _ _ _ _ (5, [(0, .ref 467), (1, .int a1)], [], w1)
  refine P_iload_n d_MD_pairs_5 rfl ?_
  refine P_if_lt 14 d_MD_pairs_6 (by decide) (fun c2 => ?_) (fun c2 => ?_)
  · refine P_iconst (v := (-1)) d_MD_pairs_14 (by decide) ?_
    exact P_iret d_MD_pairs_15 rfl (le_b rfl) (le_b rfl) ⟨⟨_, rfl⟩, hI1, FrM.of hF1 ⟨_, _, _, _, em⟩ ⟨_, _, _, _, s1⟩⟩
  · refine P_iload_n d_MD_pairs_9 rfl ?_
    refine P_iconst (v := 2) d_MD_pairs_10 (by decide) ?_
    refine P_icmp_le 16 d_MD_pairs_11 (by decide) (fun c3 => ?_) (fun c3 => ?_)
    · obtain ⟨a1N, ha1N, rfl⟩ := nI_of_le (n := 2) c2 c3 rfl
      refine P_iconst (v := 0) d_MD_pairs_16 (by decide) ?_
      refine P_istore_n d_MD_pairs_17 (by decide) rfl ?_
      refine P_iconst (v := 0) d_MD_pairs_18 (by decide) ?_
      refine P_istore_n d_MD_pairs_19 (by decide) rfl ?_
      refine PW_ind (σ := Int32 × pW) (nm) (fun jj ss => I (ss.2) ∧ Fr SN w (ss.2) ∧ MS (nI tp) (nI qs) nq (nI un) ln nl sz at_ pl so vl wo fa fp lf lp ((ss.2).2 467)) (fun jj ss => (20, [(0, .ref 467), (1, .int (nI a1N)), (2, .int ss.1), (3, .int (nI jj))], [], ss.2)) ?_ ?_ 0 (0, w1) (by omega) ⟨hI1, hF1, ⟨_, _, _, _, s1⟩⟩
      · rintro ⟨j4_2, uj4⟩ ⟨hIj4, hFj4, ⟨thj4, rmj4, umj4, smj4, emj4⟩⟩
        show PW _ _ _ _ _ _ (20, [(0, .ref 467), (1, .int (nI a1N)), (2, .int j4_2), (3, .int (nI nm))], [], uj4)
        refine P_iload_n d_MD_pairs_20 rfl ?_
        refine P_i2lN (n1 := nm) d_MD_pairs_21 (by omega) ?_
        refine P_aload_n d_MD_pairs_22 rfl ?_
        refine P_getf (i := 7) d_MD_pairs_23 ok_Model (by decide) L_MD_21 emj4 rfl ?_
        refine P_sipush (v := 168) d_MD_pairs_26 (by decide) ?_
        refine P_lald (j := 168) d_MD_pairs_29 ((hFj4.2 _ (SN_f (by omega))).trans en) ⟨by decide, by decide⟩ (by decide) ?_
        rw [e8]
        show PW _ _ _ _ _ _ (30, [(0, .ref 467), (1, .int (nI a1N)), (2, .int j4_2), (3, .int (nI nm))], [.long (lN nm), .long (lN nm)], uj4)
        refine P_lcmpN (a := nm) (b := nm) d_MD_pairs_30 (by omega) (by omega) ?_
        show PW _ _ _ _ _ _ (31, [(0, .ref 467), (1, .int (nI a1N)), (2, .int j4_2), (3, .int (nI nm))], [.int (cN nm nm)], uj4)
        refine P_if_ge 85 d_MD_pairs_31 (by decide) (fun _ => ?_) (fun h => absurd (cN_self nm) h)
        refine P_iload_n d_MD_pairs_85 rfl ?_
        exact P_iret d_MD_pairs_86 rfl (le_b rfl) (le_b rfl) ⟨⟨_, rfl⟩, hIj4, FrM.of hFj4 ⟨_, _, _, _, em⟩ ⟨_, _, _, _, emj4⟩⟩
      · rintro j4 ⟨j4_2, uj4⟩ hj4 ⟨hIj4, hFj4, ⟨thj4, rmj4, umj4, smj4, emj4⟩⟩ kkj4
        show PW _ _ _ _ _ _ (20, [(0, .ref 467), (1, .int (nI a1N)), (2, .int j4_2), (3, .int (nI j4))], [], uj4)
        refine P_iload_n d_MD_pairs_20 rfl ?_
        refine P_i2lN (n1 := j4) d_MD_pairs_21 (by omega) ?_
        refine P_aload_n d_MD_pairs_22 rfl ?_
        refine P_getf (i := 7) d_MD_pairs_23 ok_Model (by decide) L_MD_21 emj4 rfl ?_
        refine P_sipush (v := 168) d_MD_pairs_26 (by decide) ?_
        refine P_lald (j := 168) d_MD_pairs_29 ((hFj4.2 _ (SN_f (by omega))).trans en) ⟨by decide, by decide⟩ (by decide) ?_
        rw [e8]
        show PW _ _ _ _ _ _ (30, [(0, .ref 467), (1, .int (nI a1N)), (2, .int j4_2), (3, .int (nI j4))], [.long (lN nm), .long (lN j4)], uj4)
        refine P_lcmpN (a := j4) (b := nm) d_MD_pairs_30 (by omega) (by omega) ?_
        show PW _ _ _ _ _ _ (31, [(0, .ref 467), (1, .int (nI a1N)), (2, .int j4_2), (3, .int (nI j4))], [.int (cN j4 nm)], uj4)
        refine P_if_ge 85 d_MD_pairs_31 (by decide) (fun h => absurd h (cN_ltF (by omega))) (fun _ => ?_)
        refine P_iload_n d_MD_pairs_34 rfl ?_
        refine P_iconst (v := 1) d_MD_pairs_35 (by decide) ?_
        refine P_iaddN (a := j4) (b := 1) d_MD_pairs_36 ?_
        show PW _ _ _ _ _ _ (37, [(0, .ref 467), (1, .int (nI a1N)), (2, .int j4_2), (3, .int (nI j4))], [.int (nI (j4 + 1))], uj4)
        refine P_istore d_MD_pairs_37 (by decide) rfl ?_
        refine PW_ind (σ := Int32 × pW) (nm) (fun jj ss => I (ss.2) ∧ Fr SN w (ss.2) ∧ MS (nI tp) (nI qs) nq (nI un) ln nl sz at_ pl so vl wo fa fp lf lp ((ss.2).2 467)) (fun jj ss => (39, [(0, .ref 467), (1, .int (nI a1N)), (2, .int ss.1), (3, .int (nI j4)), (4, .int (nI jj))], [], ss.2)) ?_ ?_ (j4 + 1) (j4_2, uj4) (by omega) ⟨hIj4, hFj4, ⟨_, _, _, _, emj4⟩⟩
        · rintro ⟨j5_2, uj5⟩ ⟨hIj5, hFj5, ⟨thj5, rmj5, umj5, smj5, emj5⟩⟩
          show PW _ _ _ _ _ _ (39, [(0, .ref 467), (1, .int (nI a1N)), (2, .int j5_2), (3, .int (nI j4)), (4, .int (nI nm))], [], uj5)
          refine P_iload d_MD_pairs_39 rfl ?_
          refine P_i2lN (n1 := nm) d_MD_pairs_41 (by omega) ?_
          refine P_aload_n d_MD_pairs_42 rfl ?_
          refine P_getf (i := 7) d_MD_pairs_43 ok_Model (by decide) L_MD_21 emj5 rfl ?_
          refine P_sipush (v := 168) d_MD_pairs_46 (by decide) ?_
          refine P_lald (j := 168) d_MD_pairs_49 ((hFj5.2 _ (SN_f (by omega))).trans en) ⟨by decide, by decide⟩ (by decide) ?_
          rw [e8]
          show PW _ _ _ _ _ _ (50, [(0, .ref 467), (1, .int (nI a1N)), (2, .int j5_2), (3, .int (nI j4)), (4, .int (nI nm))], [.long (lN nm), .long (lN nm)], uj5)
          refine P_lcmpN (a := nm) (b := nm) d_MD_pairs_50 (by omega) (by omega) ?_
          show PW _ _ _ _ _ _ (51, [(0, .ref 467), (1, .int (nI a1N)), (2, .int j5_2), (3, .int (nI j4)), (4, .int (nI nm))], [.int (cN nm nm)], uj5)
          refine P_if_ge 79 d_MD_pairs_51 (by decide) (fun _ => ?_) (fun h => absurd (cN_self nm) h)
          refine P_iinc (v := nI (j4 + 1)) d_MD_pairs_79 (by decide) rfl (nI_add j4 1) rfl ?_
          refine P_goto 20 d_MD_pairs_82 (by decide) ?_
          show PW _ _ _ _ _ _ (20, [(0, .ref 467), (1, .int (nI a1N)), (2, .int j5_2), (3, .int (nI (j4 + 1))), (4, .int (nI nm))], [], uj5)
          refine PW.drop (lv' := [(0, .ref 467), (1, .int (nI a1N)), (2, .int j5_2), (3, .int (nI (j4 + 1)))]) (by simp) ?_
          exact kkj4 (j5_2, uj5) ⟨hIj5, hFj5, ⟨_, _, _, _, emj5⟩⟩
        · rintro j5 ⟨j5_2, uj5⟩ hj5 ⟨hIj5, hFj5, ⟨thj5, rmj5, umj5, smj5, emj5⟩⟩ kkj5
          show PW _ _ _ _ _ _ (39, [(0, .ref 467), (1, .int (nI a1N)), (2, .int j5_2), (3, .int (nI j4)), (4, .int (nI j5))], [], uj5)
          refine P_iload d_MD_pairs_39 rfl ?_
          refine P_i2lN (n1 := j5) d_MD_pairs_41 (by omega) ?_
          refine P_aload_n d_MD_pairs_42 rfl ?_
          refine P_getf (i := 7) d_MD_pairs_43 ok_Model (by decide) L_MD_21 emj5 rfl ?_
          refine P_sipush (v := 168) d_MD_pairs_46 (by decide) ?_
          refine P_lald (j := 168) d_MD_pairs_49 ((hFj5.2 _ (SN_f (by omega))).trans en) ⟨by decide, by decide⟩ (by decide) ?_
          rw [e8]
          show PW _ _ _ _ _ _ (50, [(0, .ref 467), (1, .int (nI a1N)), (2, .int j5_2), (3, .int (nI j4)), (4, .int (nI j5))], [.long (lN nm), .long (lN j5)], uj5)
          refine P_lcmpN (a := j5) (b := nm) d_MD_pairs_50 (by omega) (by omega) ?_
          show PW _ _ _ _ _ _ (51, [(0, .ref 467), (1, .int (nI a1N)), (2, .int j5_2), (3, .int (nI j4)), (4, .int (nI j5))], [.int (cN j5 nm)], uj5)
          refine P_if_ge 79 d_MD_pairs_51 (by decide) (fun h => absurd h (cN_ltF (by omega))) (fun _ => ?_)
          refine P_iload_n d_MD_pairs_54 rfl ?_
          refine P_aload_n d_MD_pairs_55 rfl ?_
          refine P_iload_n d_MD_pairs_56 rfl ?_
          refine P_iload d_MD_pairs_57 rfl ?_
          refine P_iload_n d_MD_pairs_59 rfl ?_
          refine P_callV (M := M_MD_pairs) (pc := 60) (as := [.int (nI j4), .int (nI j5), .int (nI a1N)]) (b := 467) d_MD_pairs_60 co_MD_isPair ok_Model emj5 L_MD_467 im_MD_isPair se_MD_isPair (s_MD_isPair hIj5 j4 (by omega) j5 (by omega) (nI a1N)) rfl ⟨by decide, by decide⟩ ⟨by decide, by decide⟩ (by exact le_b rfl) ?_ _ rfl
          rintro _ w6 ⟨⟨v6, rfl⟩, hI6, hG6⟩
          have hF6 : Fr SN w w6 := Fr.tr hFj5 hG6.1
          obtain ⟨th6, rm6, um6, sm6, em6⟩ := hG6.2 (nI tp) (nI qs) nq (nI un) ln nl sz at_ pl so vl wo fa fp lf lp ⟨_, _, _, _, emj5⟩
          show PW _ _ _ _ _ _ (63, [(0, .ref 467), (1, .int (nI a1N)), (2, .int j5_2), (3, .int (nI j4)), (4, .int (nI j5))], [.int (bi v6), .int j5_2], w6)
          refine P_if_eq 70 d_MD_pairs_63 (by decide) (fun c7 => ?_) (fun c7 => ?_)
          · refine P_iconst (v := 0) d_MD_pairs_70 (by decide) ?_
            refine P_iadd d_MD_pairs_71 ?_
            refine P_istore_n d_MD_pairs_72 (by decide) rfl ?_
            refine P_iinc (v := nI (j5 + 1)) d_MD_pairs_73 (by decide) rfl (nI_add j5 1) rfl ?_
            refine P_goto 39 d_MD_pairs_76 (by decide) ?_
            exact kkj5 (j5_2 + 0, w6) ⟨hI6, hF6, ⟨_, _, _, _, em6⟩⟩
          · refine P_iconst (v := 1) d_MD_pairs_66 (by decide) ?_
            refine P_goto 71 d_MD_pairs_67 (by decide) ?_
            refine P_iadd d_MD_pairs_71 ?_
            refine P_istore_n d_MD_pairs_72 (by decide) rfl ?_
            refine P_iinc (v := nI (j5 + 1)) d_MD_pairs_73 (by decide) rfl (nI_add j5 1) rfl ?_
            refine P_goto 39 d_MD_pairs_76 (by decide) ?_
            exact kkj5 (j5_2 + 1, w6) ⟨hI6, hF6, ⟨_, _, _, _, em6⟩⟩
    · refine P_iconst (v := (-1)) d_MD_pairs_14 (by decide) ?_
      exact P_iret d_MD_pairs_15 rfl (le_b rfl) (le_b rfl) ⟨⟨_, rfl⟩, hI1, FrM.of hF1 ⟨_, _, _, _, em⟩ ⟨_, _, _, _, s1⟩⟩
