/-! shapes: the reference (by program) -/
theorem s_MD_laysInverse {G : pG} {w : pW} (hI : I w) (m : Nat) (hm : m < 16) : PM G M_MD_laysInverse 3 0 0 [.ref 467, .int (nI m)] w (fun r w' => r = none ∧ I w' ∧ FrM w w') := by
  refine PM_of pn_MD_laysInverse (le_b rfl) ?_
  show PW _ _ _ _ _ _ (0, [(0, .ref 467), (1, .int (nI m))], [], w)
  obtain ⟨tp, qs, un, nq, ln, nl, sz, at_, pl, so, vl, wo, fa, fp, lf, lp, th, rm, um, sm, htp, hqs, hun, em⟩ := hI.md
  obtain ⟨fn, nm, np, en, hnm, e8, hnp, e9⟩ := hI.now
  refine P_aload_n d_MD_laysInverse_0 rfl ?_
  refine P_aload_n d_MD_laysInverse_1 rfl ?_
  refine P_getf (i := 26) d_MD_laysInverse_2 ok_Model (by decide) L_MD_44 em rfl ?_
  refine P_iload_n d_MD_laysInverse_5 rfl ?_
  refine P_callV (M := M_MD_laysInverse) (pc := 6) (as := [.ref 477, .int (nI m)]) (b := 467) d_MD_laysInverse_6 co_MD_takes ok_Model em L_MD_274 im_MD_takes se_MD_takes (s_MD_takes hI (by decide) kc_477 (by omega) m (by omega)) rfl ⟨by decide, by decide⟩ ⟨by decide, by decide⟩ (by exact le_b rfl) ?_ _ rfl
  rintro _ w1 ⟨rfl, hI1, hG1⟩
  have hF1 : Fr SN w w1 := Fr.tr Fr.rf hG1.1
  obtain ⟨th1, rm1, um1, sm1, em1⟩ := hG1.2 (nI tp) (nI qs) nq (nI un) ln nl sz at_ pl so vl wo fa fp lf lp ⟨_, _, _, _, em⟩
  show PW _ _ _ _ _ _ (9, [(0, .ref 467), (1, .int (nI m))], [], w1)
  refine P_aload_n d_MD_laysInverse_9 rfl ?_
  refine P_getf (i := 25) d_MD_laysInverse_10 ok_Model (by decide) L_MD_41 em1 rfl ?_
  refine P_aload_n d_MD_laysInverse_13 rfl ?_
  refine P_getf (i := 26) d_MD_laysInverse_14 ok_Model (by decide) L_MD_44 em1 rfl ?_
  obtain ⟨f2, f2e⟩ := hI1.row (r := 476) (by decide) kc_476
  obtain ⟨f3, f3e⟩ := hI1.row (r := 477) (by decide) kc_477
  refine P_callS (M := M_MD_laysInverse) (pc := 17) (as := [.ref 476, .ref 477]) d_MD_laysInverse_17 co_MD_turnsRound L_MD_230 sm_MD_turnsRound (s_MD_turnsRound f2e (by decide) f3e (by decide)) rfl ⟨by decide, by decide⟩ ⟨by decide, by decide⟩ (by exact le_b rfl) ?_ _ rfl
  rintro _ w4 ⟨rfl, g4, e4⟩
  have s4 := w_s e4
  have hI4 : I w4 := hI1.setL e4 kc_476
  have hF4 : Fr SN w w4 := Fr.set hF1 e4 (SN_t (by omega))
  show PW _ _ _ _ _ _ (20, [(0, .ref 467), (1, .int (nI m))], [], w4)
  refine P_aload_n d_MD_laysInverse_20 rfl ?_
  refine P_getf (i := 25) d_MD_laysInverse_21 ok_Model (by decide) L_MD_41 ((w_n e4 _ (by decide)).trans em1) rfl ?_
  refine P_callS (M := M_MD_laysInverse) (pc := 24) (as := [.ref 476]) d_MD_laysInverse_24 co_MD_reduces L_MD_220 sm_MD_reduces (v_MD_reduces s4 (by decide) (by decide) (by decide)) rfl ⟨by decide, by decide⟩ ⟨by decide, by decide⟩ (by exact le_b rfl) ?_ _ rfl
  rintro _ w5 ⟨rfl, g5, e5⟩
  have s5 := w_s e5
  have hI5 : I w5 := hI4.setL e5 kc_476
  have hF5 : Fr SN w w5 := Fr.set hF4 e5 (SN_t (by omega))
  show PW _ _ _ _ _ _ (27, [(0, .ref 467), (1, .int (nI m))], [], w5)
  exact P_vret d_MD_laysInverse_27 rfl (le_b rfl) (le_b rfl) ⟨rfl, hI5, FrM.of hF5 ⟨_, _, _, _, em⟩ ⟨_, _, _, _, ((w_n e5 _ (by decide)).trans ((w_n e4 _ (by decide)).trans em1))⟩⟩
theorem s_MD_goesOn {G : pG} {w : pW} (hI : I w) (m : Nat) (hm : m < 16) : PM G M_MD_goesOn 3 0 0 [.ref 467, .int (nI m)] w (fun r w' => (∃ v, r = some (.int (bi v))) ∧ I w' ∧ FrM w w') := by
  refine PM_of pn_MD_goesOn (le_b rfl) ?_
  show PW _ _ _ _ _ _ (0, [(0, .ref 467), (1, .int (nI m))], [], w)
  obtain ⟨tp, qs, un, nq, ln, nl, sz, at_, pl, so, vl, wo, fa, fp, lf, lp, th, rm, um, sm, htp, hqs, hun, em⟩ := hI.md
  obtain ⟨fn, nm, np, en, hnm, e8, hnp, e9⟩ := hI.now
  refine P_aload_n d_MD_goesOn_0 rfl ?_
  refine P_aload_n d_MD_goesOn_1 rfl ?_
  refine P_getf (i := 26) d_MD_goesOn_2 ok_Model (by decide) L_MD_44 em rfl ?_
  refine P_iload_n d_MD_goesOn_5 rfl ?_
  refine P_callV (M := M_MD_goesOn) (pc := 6) (as := [.ref 477, .int (nI m)]) (b := 467) d_MD_goesOn_6 co_MD_takes ok_Model em L_MD_274 im_MD_takes se_MD_takes (s_MD_takes hI (by decide) kc_477 (by omega) m (by omega)) rfl ⟨by decide, by decide⟩ ⟨by decide, by decide⟩ (by exact le_b rfl) ?_ _ rfl
  rintro _ w1 ⟨rfl, hI1, hG1⟩
  have hF1 : Fr SN w w1 := Fr.tr Fr.rf hG1.1
  obtain ⟨th1, rm1, um1, sm1, em1⟩ := hG1.2 (nI tp) (nI qs) nq (nI un) ln nl sz at_ pl so vl wo fa fp lf lp ⟨_, _, _, _, em⟩
  show PW _ _ _ _ _ _ (9, [(0, .ref 467), (1, .int (nI m))], [], w1)
  refine P_iconst (v := 0) d_MD_goesOn_9 (by decide) ?_
  refine P_istore_n d_MD_goesOn_10 (by decide) rfl ?_
  refine PW_ind (σ := pW) (9) (fun jj ss => I (ss) ∧ Fr SN w (ss) ∧ MS (nI tp) (nI qs) nq (nI un) ln nl sz at_ pl so vl wo fa fp lf lp ((ss).2 467)) (fun jj ss => (11, [(0, .ref 467), (1, .int (nI m)), (2, .int (nI jj))], [], ss)) ?_ ?_ 0 (w1) (by omega) ⟨hI1, hF1, ⟨_, _, _, _, em1⟩⟩
  · rintro uj2 ⟨hIj2, hFj2, ⟨thj2, rmj2, umj2, smj2, emj2⟩⟩
    show PW _ _ _ _ _ _ (11, [(0, .ref 467), (1, .int (nI m)), (2, .int 9)], [], uj2)
    refine P_iload_n d_MD_goesOn_11 rfl ?_
    refine P_bipush (v := 9) d_MD_goesOn_12 (by decide) ?_
    refine P_icmp_ge 35 d_MD_goesOn_14 (by decide) (fun _ => ?_) (fun h => absurd (by decide) h)
    refine P_aload_n d_MD_goesOn_35 rfl ?_
    refine P_getf (i := 25) d_MD_goesOn_36 ok_Model (by decide) L_MD_41 emj2 rfl ?_
    refine P_aload_n d_MD_goesOn_39 rfl ?_
    refine P_getf (i := 26) d_MD_goesOn_40 ok_Model (by decide) L_MD_44 emj2 rfl ?_
    refine P_aload_n d_MD_goesOn_43 rfl ?_
    refine P_getf (i := 27) d_MD_goesOn_44 ok_Model (by decide) L_MD_47 emj2 rfl ?_
    obtain ⟨f3, f3e⟩ := hIj2.row (r := 476) (by decide) kc_476
    obtain ⟨f4, f4e⟩ := hIj2.row (r := 477) (by decide) kc_477
    obtain ⟨f5, f5e⟩ := hIj2.row (r := 478) (by decide) kc_478
    refine P_callS (M := M_MD_goesOn) (pc := 47) (as := [.ref 476, .ref 477, .ref 478]) d_MD_goesOn_47 co_MD_multiplies L_MD_234 sm_MD_multiplies (s_MD_multiplies f3e (by decide) f4e f5e (by decide) (by decide)) rfl ⟨by decide, by decide⟩ ⟨by decide, by decide⟩ (by exact le_b rfl) ?_ _ rfl
    rintro _ w6 ⟨rfl, g6, e6⟩
    have s6 := w_s e6
    have hI6 : I w6 := hIj2.setL e6 kc_476
    have hF6 : Fr SN w w6 := Fr.set hFj2 e6 (SN_t (by omega))
    show PW _ _ _ _ _ _ (50, [(0, .ref 467), (1, .int (nI m)), (2, .int 9)], [], w6)
    refine P_aload_n d_MD_goesOn_50 rfl ?_
    refine P_getf (i := 25) d_MD_goesOn_51 ok_Model (by decide) L_MD_41 ((w_n e6 _ (by decide)).trans emj2) rfl ?_
    refine P_callS (M := M_MD_goesOn) (pc := 54) (as := [.ref 476]) d_MD_goesOn_54 co_MD_reduces L_MD_220 sm_MD_reduces (v_MD_reduces s6 (by decide) (by decide) (by decide)) rfl ⟨by decide, by decide⟩ ⟨by decide, by decide⟩ (by exact le_b rfl) ?_ _ rfl
    rintro _ w7 ⟨rfl, g7, e7⟩
    have s7 := w_s e7
    have hI7 : I w7 := hI6.setL e7 kc_476
    have hF7 : Fr SN w w7 := Fr.set hF6 e7 (SN_t (by omega))
    show PW _ _ _ _ _ _ (57, [(0, .ref 467), (1, .int (nI m)), (2, .int 9)], [], w7)
    refine P_aload_n d_MD_goesOn_57 rfl ?_
    refine P_callV (M := M_MD_goesOn) (pc := 58) (as := []) (b := 467) d_MD_goesOn_58 co_MD_isLarge ok_Model ((w_n e7 _ (by decide)).trans ((w_n e6 _ (by decide)).trans emj2)) L_MD_172 im_MD_isLarge se_MD_isLarge (s_MD_isLarge ((w_n e7 _ (by decide)).trans ((w_n e6 _ (by decide)).trans emj2)) htp hqs hun s7) rfl ⟨by decide, by decide⟩ ⟨by decide, by decide⟩ (by exact le_b rfl) ?_ _ rfl
    rintro _ u ⟨⟨v8, rfl⟩, eu⟩
    subst u
    show PW _ _ _ _ _ _ (61, [(0, .ref 467), (1, .int (nI m)), (2, .int 9)], [.int (bi v8)], w7)
    refine P_if_ne 68 d_MD_goesOn_61 (by decide) (fun c9 => ?_) (fun c9 => ?_)
    · refine P_iconst (v := 0) d_MD_goesOn_68 (by decide) ?_
      exact P_zret d_MD_goesOn_69 rfl rfl (le_b rfl) (le_b rfl) ⟨⟨false, rfl⟩, hI7, FrM.of hF7 ⟨_, _, _, _, em⟩ ⟨_, _, _, _, ((w_n e7 _ (by decide)).trans ((w_n e6 _ (by decide)).trans emj2))⟩⟩
    · refine P_iconst (v := 1) d_MD_goesOn_64 (by decide) ?_
      refine P_goto 69 d_MD_goesOn_65 (by decide) ?_
      exact P_zret d_MD_goesOn_69 rfl rfl (le_b rfl) (le_b rfl) ⟨⟨true, rfl⟩, hI7, FrM.of hF7 ⟨_, _, _, _, em⟩ ⟨_, _, _, _, ((w_n e7 _ (by decide)).trans ((w_n e6 _ (by decide)).trans emj2))⟩⟩
  · rintro j2 uj2 hj2 ⟨hIj2, hFj2, ⟨thj2, rmj2, umj2, smj2, emj2⟩⟩ kkj2
    show PW _ _ _ _ _ _ (11, [(0, .ref 467), (1, .int (nI m)), (2, .int (nI j2))], [], uj2)
    refine P_iload_n d_MD_goesOn_11 rfl ?_
    refine P_bipush (v := 9) d_MD_goesOn_12 (by decide) ?_
    refine P_icmp_ge 35 d_MD_goesOn_14 (by decide) (fun h => absurd h (nI_geF (a := j2) (b := 9) (by omega) (by omega))) (fun _ => ?_)
    refine P_aload_n d_MD_goesOn_17 rfl ?_
    refine P_getf (i := 27) d_MD_goesOn_18 ok_Model (by decide) L_MD_47 emj2 rfl ?_
    refine P_iload_n d_MD_goesOn_21 rfl ?_
    refine P_aload_n d_MD_goesOn_22 rfl ?_
    refine P_getf (i := 25) d_MD_goesOn_23 ok_Model (by decide) L_MD_41 emj2 rfl ?_
    refine P_iload_n d_MD_goesOn_26 rfl ?_
    obtain ⟨f10, f10e⟩ := hIj2.row (r := 476) (by decide) kc_476
    refine P_lald (j := j2) d_MD_goesOn_27 f10e (ix_nI (by omega)) (by omega) ?_
    obtain ⟨f11, f11e⟩ := hIj2.row (r := 478) (by decide) kc_478
    refine P_lastG (j := j2) d_MD_goesOn_28 f11e (by decide) (ix_nI (by omega)) (by omega) (fun w12 e12 s12 n12 z12 => ?_)
    generalize vp_updL _ _ _ = g13 at e12 s12
    have hI12 : I w12 := hIj2.setL e12 kc_478
    have hF12 : Fr SN w w12 := Fr.set hFj2 e12 (SN_t (by omega))
    show PW _ _ _ _ _ _ (29, [(0, .ref 467), (1, .int (nI m)), (2, .int (nI j2))], [], w12)
    refine P_iinc (v := nI (j2 + 1)) d_MD_goesOn_29 (by decide) rfl (nI_add j2 1) rfl ?_
    refine P_goto 11 d_MD_goesOn_32 (by decide) ?_
    exact kkj2 (w12) ⟨hI12, hF12, ⟨_, _, _, _, ((w_n e12 _ (by decide)).trans emj2)⟩⟩
theorem s_MD_images {G : pG} {w : pW} (hI : I w) {o : Nat} (hlo : o < 487) (hko : Kc o = (1, 9, 0)) (x : Int64) (y : Int64) (z : Int64) : PM G M_MD_images 4 0 0 [.ref 467, .ref o, .long x, .long y, .long z] w (fun r w' => r = none ∧ I w' ∧ FrM w w') := by
  refine PM_of pn_MD_images (le_b rfl) ?_
  show PW _ _ _ _ _ _ (0, [(0, .ref 467), (1, .ref o), (2, .long x), (4, .long y), (6, .long z)], [], w)
  obtain ⟨tp, qs, un, nq, ln, nl, sz, at_, pl, so, vl, wo, fa, fp, lf, lp, th, rm, um, sm, htp, hqs, hun, em⟩ := hI.md
  obtain ⟨fn, nm, np, en, hnm, e8, hnp, e9⟩ := hI.now
  refine P_aload_n d_MD_images_0 rfl ?_
  refine P_aload_n d_MD_images_1 rfl ?_
  refine P_iconst (v := 0) d_MD_images_2 (by decide) ?_
  obtain ⟨f1, f1e⟩ := hI.row (r := o) (by omega) hko
  refine P_lald (j := 0) d_MD_images_3 f1e ⟨by decide, by decide⟩ (by decide) ?_
  refine P_lload_n d_MD_images_4 rfl ?_
  refine P_lmul d_MD_images_5 ?_
  refine P_aload_n d_MD_images_6 rfl ?_
  refine P_iconst (v := 1) d_MD_images_7 (by decide) ?_
  refine P_lald (j := 1) d_MD_images_8 f1e ⟨by decide, by decide⟩ (by decide) ?_
  refine P_lload d_MD_images_9 rfl ?_
  refine P_lmul d_MD_images_11 ?_
  refine P_ladd d_MD_images_12 ?_
  refine P_aload_n d_MD_images_13 rfl ?_
  refine P_iconst (v := 2) d_MD_images_14 (by decide) ?_
  refine P_lald (j := 2) d_MD_images_15 f1e ⟨by decide, by decide⟩ (by decide) ?_
  refine P_lload d_MD_images_16 rfl ?_
  refine P_lmul d_MD_images_18 ?_
  refine P_ladd d_MD_images_19 ?_
  refine P_aload_n d_MD_images_20 rfl ?_
  refine P_iconst (v := 3) d_MD_images_21 (by decide) ?_
  refine P_lald (j := 3) d_MD_images_22 f1e ⟨by decide, by decide⟩ (by decide) ?_
  refine P_lload_n d_MD_images_23 rfl ?_
  refine P_lmul d_MD_images_24 ?_
  refine P_aload_n d_MD_images_25 rfl ?_
  refine P_iconst (v := 4) d_MD_images_26 (by decide) ?_
  refine P_lald (j := 4) d_MD_images_27 f1e ⟨by decide, by decide⟩ (by decide) ?_
  refine P_lload d_MD_images_28 rfl ?_
  refine P_lmul d_MD_images_30 ?_
  refine P_ladd d_MD_images_31 ?_
  refine P_aload_n d_MD_images_32 rfl ?_
  refine P_iconst (v := 5) d_MD_images_33 (by decide) ?_
  refine P_lald (j := 5) d_MD_images_34 f1e ⟨by decide, by decide⟩ (by decide) ?_
  refine P_lload d_MD_images_35 rfl ?_
  refine P_lmul d_MD_images_37 ?_
  refine P_ladd d_MD_images_38 ?_
  refine P_aload_n d_MD_images_39 rfl ?_
  refine P_bipush (v := 6) d_MD_images_40 (by decide) ?_
  refine P_lald (j := 6) d_MD_images_42 f1e ⟨by decide, by decide⟩ (by decide) ?_
  refine P_lload_n d_MD_images_43 rfl ?_
  refine P_lmul d_MD_images_44 ?_
  refine P_aload_n d_MD_images_45 rfl ?_
  refine P_bipush (v := 7) d_MD_images_46 (by decide) ?_
  refine P_lald (j := 7) d_MD_images_48 f1e ⟨by decide, by decide⟩ (by decide) ?_
  refine P_lload d_MD_images_49 rfl ?_
  refine P_lmul d_MD_images_51 ?_
  refine P_ladd d_MD_images_52 ?_
  refine P_aload_n d_MD_images_53 rfl ?_
  refine P_bipush (v := 8) d_MD_images_54 (by decide) ?_
  refine P_lald (j := 8) d_MD_images_56 f1e ⟨by decide, by decide⟩ (by decide) ?_
  refine P_lload d_MD_images_57 rfl ?_
  refine P_lmul d_MD_images_59 ?_
  refine P_ladd d_MD_images_60 ?_
  refine P_callV (M := M_MD_images) (pc := 61) (as := [.long ((((f1 0) * x) + ((f1 1) * y)) + ((f1 2) * z)), .long ((((f1 3) * x) + ((f1 4) * y)) + ((f1 5) * z)), .long ((((f1 6) * x) + ((f1 7) * y)) + ((f1 8) * z))]) (b := 467) d_MD_images_61 co_MD_laysThree ok_Model em L_MD_179 im_MD_laysThree se_MD_laysThree (s_MD_laysThree hI ((((f1 0) * x) + ((f1 1) * y)) + ((f1 2) * z)) ((((f1 3) * x) + ((f1 4) * y)) + ((f1 5) * z)) ((((f1 6) * x) + ((f1 7) * y)) + ((f1 8) * z))) rfl ⟨by decide, by decide⟩ ⟨by decide, by decide⟩ (by exact le_b rfl) ?_ _ rfl
  rintro _ w2 ⟨rfl, hI2, hG2⟩
  have hF2 : Fr SN w w2 := Fr.tr Fr.rf hG2.1
  obtain ⟨th2, rm2, um2, sm2, em2⟩ := hG2.2 (nI tp) (nI qs) nq (nI un) ln nl sz at_ pl so vl wo fa fp lf lp ⟨_, _, _, _, em⟩
  show PW _ _ _ _ _ _ (64, [(0, .ref 467), (1, .ref o), (2, .long x), (4, .long y), (6, .long z)], [], w2)
  exact P_vret d_MD_images_64 rfl (le_b rfl) (le_b rfl) ⟨rfl, hI2, FrM.of hF2 ⟨_, _, _, _, em⟩ ⟨_, _, _, _, em2⟩⟩
theorem s_MD_imageOf {G : pG} {w : pW} (hI : I w) (m : Nat) (hm : m < 16) (p : Nat) (hp : p < 8) : PM G M_MD_imageOf 5 0 0 [.ref 467, .int (nI m), .int (nI p)] w (fun r w' => r = none ∧ I w' ∧ FrM w w') := by
  refine PM_of pn_MD_imageOf (le_b rfl) ?_
  show PW _ _ _ _ _ _ (0, [(0, .ref 467), (1, .int (nI m)), (2, .int (nI p))], [], w)
  obtain ⟨tp, qs, un, nq, ln, nl, sz, at_, pl, so, vl, wo, fa, fp, lf, lp, th, rm, um, sm, htp, hqs, hun, em⟩ := hI.md
  obtain ⟨fn, nm, np, en, hnm, e8, hnp, e9⟩ := hI.now
  refine P_aload_n d_MD_imageOf_0 rfl ?_
  refine P_aload_n d_MD_imageOf_1 rfl ?_
  refine P_getf (i := 26) d_MD_imageOf_2 ok_Model (by decide) L_MD_44 em rfl ?_
  refine P_iload_n d_MD_imageOf_5 rfl ?_
  refine P_callV (M := M_MD_imageOf) (pc := 6) (as := [.ref 477, .int (nI m)]) (b := 467) d_MD_imageOf_6 co_MD_takes ok_Model em L_MD_274 im_MD_takes se_MD_takes (s_MD_takes hI (by decide) kc_477 (by omega) m (by omega)) rfl ⟨by decide, by decide⟩ ⟨by decide, by decide⟩ (by exact le_b rfl) ?_ _ rfl
  rintro _ w1 ⟨rfl, hI1, hG1⟩
  have hF1 : Fr SN w w1 := Fr.tr Fr.rf hG1.1
  obtain ⟨th1, rm1, um1, sm1, em1⟩ := hG1.2 (nI tp) (nI qs) nq (nI un) ln nl sz at_ pl so vl wo fa fp lf lp ⟨_, _, _, _, em⟩
  show PW _ _ _ _ _ _ (9, [(0, .ref 467), (1, .int (nI m)), (2, .int (nI p))], [], w1)
  refine P_aload_n d_MD_imageOf_9 rfl ?_
  refine P_aload_n d_MD_imageOf_10 rfl ?_
  refine P_getf (i := 26) d_MD_imageOf_11 ok_Model (by decide) L_MD_44 em1 rfl ?_
  refine P_aload_n d_MD_imageOf_14 rfl ?_
  refine P_iload_n d_MD_imageOf_15 rfl ?_
  refine P_iconst (v := 0) d_MD_imageOf_16 (by decide) ?_
  refine P_callV (M := M_MD_imageOf) (pc := 17) (as := [.int (nI p), .int 0]) (b := 467) d_MD_imageOf_17 co_MD_pointOf ok_Model em1 L_MD_250 im_MD_pointOf se_MD_pointOf (s_MD_pointOf p (by omega) 0 (by decide) em1 htp hqs hun ((hF1.2 _ (SN_f (by omega))).trans en) hnm e8 hnp e9) rfl ⟨by decide, by decide⟩ ⟨by decide, by decide⟩ (by exact le_b rfl) ?_ _ rfl
  rintro _ u ⟨⟨v2, rfl⟩, eu⟩
  subst u
  show PW _ _ _ _ _ _ (20, [(0, .ref 467), (1, .int (nI m)), (2, .int (nI p))], [.long v2, .ref 477, .ref 467], w1)
  refine P_aload_n d_MD_imageOf_20 rfl ?_
  refine P_iload_n d_MD_imageOf_21 rfl ?_
  refine P_iconst (v := 1) d_MD_imageOf_22 (by decide) ?_
  refine P_callV (M := M_MD_imageOf) (pc := 23) (as := [.int (nI p), .int 1]) (b := 467) d_MD_imageOf_23 co_MD_pointOf ok_Model em1 L_MD_250 im_MD_pointOf se_MD_pointOf (s_MD_pointOf p (by omega) 1 (by decide) em1 htp hqs hun ((hF1.2 _ (SN_f (by omega))).trans en) hnm e8 hnp e9) rfl ⟨by decide, by decide⟩ ⟨by decide, by decide⟩ (by exact le_b rfl) ?_ _ rfl
  rintro _ u ⟨⟨v3, rfl⟩, eu⟩
  subst u
  show PW _ _ _ _ _ _ (26, [(0, .ref 467), (1, .int (nI m)), (2, .int (nI p))], [.long v3, .long v2, .ref 477, .ref 467], w1)
  refine P_aload_n d_MD_imageOf_26 rfl ?_
  refine P_iload_n d_MD_imageOf_27 rfl ?_
  refine P_iconst (v := 2) d_MD_imageOf_28 (by decide) ?_
  refine P_callV (M := M_MD_imageOf) (pc := 29) (as := [.int (nI p), .int 2]) (b := 467) d_MD_imageOf_29 co_MD_pointOf ok_Model em1 L_MD_250 im_MD_pointOf se_MD_pointOf (s_MD_pointOf p (by omega) 2 (by decide) em1 htp hqs hun ((hF1.2 _ (SN_f (by omega))).trans en) hnm e8 hnp e9) rfl ⟨by decide, by decide⟩ ⟨by decide, by decide⟩ (by exact le_b rfl) ?_ _ rfl
  rintro _ u ⟨⟨v4, rfl⟩, eu⟩
  subst u
  show PW _ _ _ _ _ _ (32, [(0, .ref 467), (1, .int (nI m)), (2, .int (nI p))], [.long v4, .long v3, .long v2, .ref 477, .ref 467], w1)
  refine P_callV (M := M_MD_imageOf) (pc := 32) (as := [.ref 477, .long v2, .long v3, .long v4]) (b := 467) d_MD_imageOf_32 co_MD_images ok_Model em1 L_MD_294 im_MD_images se_MD_images (s_MD_images hI1 (by decide) kc_477 v2 v3 v4) rfl ⟨by decide, by decide⟩ ⟨by decide, by decide⟩ (by exact le_b rfl) ?_ _ rfl
  rintro _ w5 ⟨rfl, hI5, hG5⟩
  have hF5 : Fr SN w w5 := Fr.tr hF1 hG5.1
  obtain ⟨th5, rm5, um5, sm5, em5⟩ := hG5.2 (nI tp) (nI qs) nq (nI un) ln nl sz at_ pl so vl wo fa fp lf lp ⟨_, _, _, _, em1⟩
  show PW _ _ _ _ _ _ (35, [(0, .ref 467), (1, .int (nI m)), (2, .int (nI p))], [], w5)
  exact P_vret d_MD_imageOf_35 rfl (le_b rfl) (le_b rfl) ⟨rfl, hI5, FrM.of hF5 ⟨_, _, _, _, em⟩ ⟨_, _, _, _, em5⟩⟩
theorem s_MD_doesStay {G : pG} {w : pW} (hI : I w) (m : Nat) (hm : m < 16) (p : Nat) (hp : p < 8) : PM G M_MD_doesStay 6 0 0 [.ref 467, .int (nI m), .int (nI p)] w (fun r w' => (∃ v, r = some (.int (bi v))) ∧ I w' ∧ FrM w w') := by
  refine PM_of pn_MD_doesStay (le_b rfl) ?_
  show PW _ _ _ _ _ _ (0, [(0, .ref 467), (1, .int (nI m)), (2, .int (nI p))], [], w)
  obtain ⟨tp, qs, un, nq, ln, nl, sz, at_, pl, so, vl, wo, fa, fp, lf, lp, th, rm, um, sm, htp, hqs, hun, em⟩ := hI.md
  obtain ⟨fn, nm, np, en, hnm, e8, hnp, e9⟩ := hI.now
  refine P_aload_n d_MD_doesStay_0 rfl ?_
  refine P_iload_n d_MD_doesStay_1 rfl ?_
  refine P_iload_n d_MD_doesStay_2 rfl ?_
  refine P_callV (M := M_MD_doesStay) (pc := 3) (as := [.int (nI m), .int (nI p)]) (b := 467) d_MD_doesStay_3 co_MD_imageOf ok_Model em L_MD_298 im_MD_imageOf se_MD_imageOf (s_MD_imageOf hI m (by omega) p (by omega)) rfl ⟨by decide, by decide⟩ ⟨by decide, by decide⟩ (by exact le_b rfl) ?_ _ rfl
  rintro _ w1 ⟨rfl, hI1, hG1⟩
  have hF1 : Fr SN w w1 := Fr.tr Fr.rf hG1.1
  obtain ⟨th1, rm1, um1, sm1, em1⟩ := hG1.2 (nI tp) (nI qs) nq (nI un) ln nl sz at_ pl so vl wo fa fp lf lp ⟨_, _, _, _, em⟩
  show PW _ _ _ _ _ _ (6, [(0, .ref 467), (1, .int (nI m)), (2, .int (nI p))], [], w1)
  refine P_aload_n d_MD_doesStay_6 rfl ?_
  refine P_getf (i := 28) d_MD_doesStay_7 ok_Model (by decide) L_MD_50 em1 rfl ?_
  refine P_iconst (v := 0) d_MD_doesStay_10 (by decide) ?_
  obtain ⟨f2, f2e⟩ := hI1.row (r := 479) (by decide) kc_479
  refine P_lald (j := 0) d_MD_doesStay_11 f2e ⟨by decide, by decide⟩ (by decide) ?_
  refine P_aload_n d_MD_doesStay_12 rfl ?_
  refine P_iload_n d_MD_doesStay_13 rfl ?_
  refine P_iconst (v := 0) d_MD_doesStay_14 (by decide) ?_
  refine P_callV (M := M_MD_doesStay) (pc := 15) (as := [.int (nI p), .int 0]) (b := 467) d_MD_doesStay_15 co_MD_pointOf ok_Model em1 L_MD_250 im_MD_pointOf se_MD_pointOf (s_MD_pointOf p (by omega) 0 (by decide) em1 htp hqs hun ((hF1.2 _ (SN_f (by omega))).trans en) hnm e8 hnp e9) rfl ⟨by decide, by decide⟩ ⟨by decide, by decide⟩ (by exact le_b rfl) ?_ _ rfl
  rintro _ u ⟨⟨v3, rfl⟩, eu⟩
  subst u
  show PW _ _ _ _ _ _ (18, [(0, .ref 467), (1, .int (nI m)), (2, .int (nI p))], [.long v3, .long (f2 0)], w1)
  refine P_lcmp d_MD_doesStay_18 ?_
  refine P_if_ne 58 d_MD_doesStay_19 (by decide) (fun c4 => ?_) (fun c4 => ?_)
  · refine P_iconst (v := 0) d_MD_doesStay_58 (by decide) ?_
    exact P_zret d_MD_doesStay_59 rfl rfl (le_b rfl) (le_b rfl) ⟨⟨false, rfl⟩, hI1, FrM.of hF1 ⟨_, _, _, _, em⟩ ⟨_, _, _, _, em1⟩⟩
  · refine P_aload_n d_MD_doesStay_22 rfl ?_
    refine P_getf (i := 28) d_MD_doesStay_23 ok_Model (by decide) L_MD_50 em1 rfl ?_
    refine P_iconst (v := 1) d_MD_doesStay_26 (by decide) ?_
    refine P_lald (j := 1) d_MD_doesStay_27 f2e ⟨by decide, by decide⟩ (by decide) ?_
    refine P_aload_n d_MD_doesStay_28 rfl ?_
    refine P_iload_n d_MD_doesStay_29 rfl ?_
    refine P_iconst (v := 1) d_MD_doesStay_30 (by decide) ?_
    refine P_callV (M := M_MD_doesStay) (pc := 31) (as := [.int (nI p), .int 1]) (b := 467) d_MD_doesStay_31 co_MD_pointOf ok_Model em1 L_MD_250 im_MD_pointOf se_MD_pointOf (s_MD_pointOf p (by omega) 1 (by decide) em1 htp hqs hun ((hF1.2 _ (SN_f (by omega))).trans en) hnm e8 hnp e9) rfl ⟨by decide, by decide⟩ ⟨by decide, by decide⟩ (by exact le_b rfl) ?_ _ rfl
    rintro _ u ⟨⟨v5, rfl⟩, eu⟩
    subst u
    show PW _ _ _ _ _ _ (34, [(0, .ref 467), (1, .int (nI m)), (2, .int (nI p))], [.long v5, .long (f2 1)], w1)
    refine P_lcmp d_MD_doesStay_34 ?_
    refine P_if_ne 58 d_MD_doesStay_35 (by decide) (fun c6 => ?_) (fun c6 => ?_)
    · refine P_iconst (v := 0) d_MD_doesStay_58 (by decide) ?_
      exact P_zret d_MD_doesStay_59 rfl rfl (le_b rfl) (le_b rfl) ⟨⟨false, rfl⟩, hI1, FrM.of hF1 ⟨_, _, _, _, em⟩ ⟨_, _, _, _, em1⟩⟩
    · refine P_aload_n d_MD_doesStay_38 rfl ?_
      refine P_getf (i := 28) d_MD_doesStay_39 ok_Model (by decide) L_MD_50 em1 rfl ?_
      refine P_iconst (v := 2) d_MD_doesStay_42 (by decide) ?_
      refine P_lald (j := 2) d_MD_doesStay_43 f2e ⟨by decide, by decide⟩ (by decide) ?_
      refine P_aload_n d_MD_doesStay_44 rfl ?_
      refine P_iload_n d_MD_doesStay_45 rfl ?_
      refine P_iconst (v := 2) d_MD_doesStay_46 (by decide) ?_
      refine P_callV (M := M_MD_doesStay) (pc := 47) (as := [.int (nI p), .int 2]) (b := 467) d_MD_doesStay_47 co_MD_pointOf ok_Model em1 L_MD_250 im_MD_pointOf se_MD_pointOf (s_MD_pointOf p (by omega) 2 (by decide) em1 htp hqs hun ((hF1.2 _ (SN_f (by omega))).trans en) hnm e8 hnp e9) rfl ⟨by decide, by decide⟩ ⟨by decide, by decide⟩ (by exact le_b rfl) ?_ _ rfl
      rintro _ u ⟨⟨v7, rfl⟩, eu⟩
      subst u
      show PW _ _ _ _ _ _ (50, [(0, .ref 467), (1, .int (nI m)), (2, .int (nI p))], [.long v7, .long (f2 2)], w1)
      refine P_lcmp d_MD_doesStay_50 ?_
      refine P_if_ne 58 d_MD_doesStay_51 (by decide) (fun c8 => ?_) (fun c8 => ?_)
      · refine P_iconst (v := 0) d_MD_doesStay_58 (by decide) ?_
        exact P_zret d_MD_doesStay_59 rfl rfl (le_b rfl) (le_b rfl) ⟨⟨false, rfl⟩, hI1, FrM.of hF1 ⟨_, _, _, _, em⟩ ⟨_, _, _, _, em1⟩⟩
      · refine P_iconst (v := 1) d_MD_doesStay_54 (by decide) ?_
        refine P_goto 59 d_MD_doesStay_55 (by decide) ?_
        exact P_zret d_MD_doesStay_59 rfl rfl (le_b rfl) (le_b rfl) ⟨⟨true, rfl⟩, hI1, FrM.of hF1 ⟨_, _, _, _, em⟩ ⟨_, _, _, _, em1⟩⟩
theorem s_MD_crosses {G : pG} {w : pW} (hI : I w) {o : Nat} (hlo : o < 487) (hko : Kc o = (1, 3, 0)) (hso : 476 ≤ o ∧ o < 486) (x1 : Int64) (x2 : Int64) (x3 : Int64) (y1 : Int64) (y2 : Int64) (y3 : Int64) : PM G M_MD_crosses 0 0 0 [.ref 467, .ref o, .long x1, .long x2, .long x3, .long y1, .long y2, .long y3] w (fun r w' => r = none ∧ I w' ∧ FrM w w') := by
  refine PM_of pn_MD_crosses (le_b rfl) ?_
  show PW _ _ _ _ _ _ (0, [(0, .ref 467), (1, .ref o), (2, .long x1), (4, .long x2), (6, .long x3), (8, .long y1), (10, .long y2), (12, .long y3)], [], w)
  obtain ⟨tp, qs, un, nq, ln, nl, sz, at_, pl, so, vl, wo, fa, fp, lf, lp, th, rm, um, sm, htp, hqs, hun, em⟩ := hI.md
  obtain ⟨fn, nm, np, en, hnm, e8, hnp, e9⟩ := hI.now
  refine P_aload_n d_MD_crosses_0 rfl ?_
  refine P_iconst (v := 0) d_MD_crosses_1 (by decide) ?_
  refine P_lload d_MD_crosses_2 rfl ?_
  refine P_lload d_MD_crosses_4 rfl ?_
  refine P_lmul d_MD_crosses_6 ?_
  refine P_lload d_MD_crosses_7 rfl ?_
  refine P_lload d_MD_crosses_9 rfl ?_
  refine P_lmul d_MD_crosses_11 ?_
  refine P_lsub d_MD_crosses_12 ?_
  obtain ⟨f1, f1e⟩ := hI.row (r := o) (by omega) hko
  refine P_lastG (j := 0) d_MD_crosses_13 f1e (by omega) ⟨by decide, by decide⟩ (by decide) (fun w2 e2 s2 n2 z2 => ?_)
  generalize vp_updL _ _ _ = g3 at e2 s2
  have hI2 : I w2 := hI.setL e2 hko
  have hF2 : Fr SN w w2 := Fr.set Fr.rf e2 (SN_t (by omega))
  show PW _ _ _ _ _ _ (14, [(0, .ref 467), (1, .ref o), (2, .long x1), (4, .long x2), (6, .long x3), (8, .long y1), (10, .long y2), (12, .long y3)], [], w2)
  refine P_aload_n d_MD_crosses_14 rfl ?_
  refine P_iconst (v := 1) d_MD_crosses_15 (by decide) ?_
  refine P_lload d_MD_crosses_16 rfl ?_
  refine P_lload d_MD_crosses_18 rfl ?_
  refine P_lmul d_MD_crosses_20 ?_
  refine P_lload_n d_MD_crosses_21 rfl ?_
  refine P_lload d_MD_crosses_22 rfl ?_
  refine P_lmul d_MD_crosses_24 ?_
  refine P_lsub d_MD_crosses_25 ?_
  refine P_lastG (j := 1) d_MD_crosses_26 s2 (by omega) ⟨by decide, by decide⟩ (by decide) (fun w4 e4 s4 n4 z4 => ?_)
  generalize vp_updL _ _ _ = g5 at e4 s4
  have hI4 : I w4 := hI2.setL e4 hko
  have hF4 : Fr SN w w4 := Fr.set hF2 e4 (SN_t (by omega))
  show PW _ _ _ _ _ _ (27, [(0, .ref 467), (1, .ref o), (2, .long x1), (4, .long x2), (6, .long x3), (8, .long y1), (10, .long y2), (12, .long y3)], [], w4)
  refine P_aload_n d_MD_crosses_27 rfl ?_
  refine P_iconst (v := 2) d_MD_crosses_28 (by decide) ?_
  refine P_lload_n d_MD_crosses_29 rfl ?_
  refine P_lload d_MD_crosses_30 rfl ?_
  refine P_lmul d_MD_crosses_32 ?_
  refine P_lload d_MD_crosses_33 rfl ?_
  refine P_lload d_MD_crosses_35 rfl ?_
  refine P_lmul d_MD_crosses_37 ?_
  refine P_lsub d_MD_crosses_38 ?_
  refine P_lastG (j := 2) d_MD_crosses_39 s4 (by omega) ⟨by decide, by decide⟩ (by decide) (fun w6 e6 s6 n6 z6 => ?_)
  generalize vp_updL _ _ _ = g7 at e6 s6
  have hI6 : I w6 := hI4.setL e6 hko
  have hF6 : Fr SN w w6 := Fr.set hF4 e6 (SN_t (by omega))
  show PW _ _ _ _ _ _ (40, [(0, .ref 467), (1, .ref o), (2, .long x1), (4, .long x2), (6, .long x3), (8, .long y1), (10, .long y2), (12, .long y3)], [], w6)
  exact P_vret d_MD_crosses_40 rfl (le_b rfl) (le_b rfl) ⟨rfl, hI6, FrM.of hF6 ⟨_, _, _, _, em⟩ ⟨_, _, _, _, ((w_n e6 _ (by omega)).trans ((w_n e4 _ (by omega)).trans ((w_n e2 _ (by omega)).trans em)))⟩⟩
theorem s_MD_crossesPoints {G : pG} {w : pW} (hI : I w) {o : Nat} (hlo : o < 487) (hko : Kc o = (1, 3, 0)) (hso : 476 ≤ o ∧ o < 486) (p : Nat) (hp : p < 8) (q : Nat) (hq : q < 8) : PM G M_MD_crossesPoints 1 0 0 [.ref 467, .ref o, .int (nI p), .int (nI q)] w (fun r w' => r = none ∧ I w' ∧ FrM w w') := by
  refine PM_of pn_MD_crossesPoints (le_b rfl) ?_
  show PW _ _ _ _ _ _ (0, [(0, .ref 467), (1, .ref o), (2, .int (nI p)), (3, .int (nI q))], [], w)
  obtain ⟨tp, qs, un, nq, ln, nl, sz, at_, pl, so, vl, wo, fa, fp, lf, lp, th, rm, um, sm, htp, hqs, hun, em⟩ := hI.md
  obtain ⟨fn, nm, np, en, hnm, e8, hnp, e9⟩ := hI.now
  refine P_aload_n d_MD_crossesPoints_0 rfl ?_
  refine P_aload_n d_MD_crossesPoints_1 rfl ?_
  refine P_aload_n d_MD_crossesPoints_2 rfl ?_
  refine P_iload_n d_MD_crossesPoints_3 rfl ?_
  refine P_iconst (v := 0) d_MD_crossesPoints_4 (by decide) ?_
  refine P_callV (M := M_MD_crossesPoints) (pc := 5) (as := [.int (nI p), .int 0]) (b := 467) d_MD_crossesPoints_5 co_MD_pointOf ok_Model em L_MD_250 im_MD_pointOf se_MD_pointOf (s_MD_pointOf p (by omega) 0 (by decide) em htp hqs hun en hnm e8 hnp e9) rfl ⟨by decide, by decide⟩ ⟨by decide, by decide⟩ (by exact le_b rfl) ?_ _ rfl
  rintro _ u ⟨⟨v1, rfl⟩, eu⟩
  subst u
  show PW _ _ _ _ _ _ (8, [(0, .ref 467), (1, .ref o), (2, .int (nI p)), (3, .int (nI q))], [.long v1, .ref o, .ref 467], w)
  refine P_aload_n d_MD_crossesPoints_8 rfl ?_
  refine P_iload_n d_MD_crossesPoints_9 rfl ?_
  refine P_iconst (v := 1) d_MD_crossesPoints_10 (by decide) ?_
  refine P_callV (M := M_MD_crossesPoints) (pc := 11) (as := [.int (nI p), .int 1]) (b := 467) d_MD_crossesPoints_11 co_MD_pointOf ok_Model em L_MD_250 im_MD_pointOf se_MD_pointOf (s_MD_pointOf p (by omega) 1 (by decide) em htp hqs hun en hnm e8 hnp e9) rfl ⟨by decide, by decide⟩ ⟨by decide, by decide⟩ (by exact le_b rfl) ?_ _ rfl
  rintro _ u ⟨⟨v2, rfl⟩, eu⟩
  subst u
  show PW _ _ _ _ _ _ (14, [(0, .ref 467), (1, .ref o), (2, .int (nI p)), (3, .int (nI q))], [.long v2, .long v1, .ref o, .ref 467], w)
  refine P_aload_n d_MD_crossesPoints_14 rfl ?_
  refine P_iload_n d_MD_crossesPoints_15 rfl ?_
  refine P_iconst (v := 2) d_MD_crossesPoints_16 (by decide) ?_
  refine P_callV (M := M_MD_crossesPoints) (pc := 17) (as := [.int (nI p), .int 2]) (b := 467) d_MD_crossesPoints_17 co_MD_pointOf ok_Model em L_MD_250 im_MD_pointOf se_MD_pointOf (s_MD_pointOf p (by omega) 2 (by decide) em htp hqs hun en hnm e8 hnp e9) rfl ⟨by decide, by decide⟩ ⟨by decide, by decide⟩ (by exact le_b rfl) ?_ _ rfl
  rintro _ u ⟨⟨v3, rfl⟩, eu⟩
  subst u
  show PW _ _ _ _ _ _ (20, [(0, .ref 467), (1, .ref o), (2, .int (nI p)), (3, .int (nI q))], [.long v3, .long v2, .long v1, .ref o, .ref 467], w)
  refine P_aload_n d_MD_crossesPoints_20 rfl ?_
  refine P_iload_n d_MD_crossesPoints_21 rfl ?_
  refine P_iconst (v := 0) d_MD_crossesPoints_22 (by decide) ?_
  refine P_callV (M := M_MD_crossesPoints) (pc := 23) (as := [.int (nI q), .int 0]) (b := 467) d_MD_crossesPoints_23 co_MD_pointOf ok_Model em L_MD_250 im_MD_pointOf se_MD_pointOf (s_MD_pointOf q (by omega) 0 (by decide) em htp hqs hun en hnm e8 hnp e9) rfl ⟨by decide, by decide⟩ ⟨by decide, by decide⟩ (by exact le_b rfl) ?_ _ rfl
  rintro _ u ⟨⟨v4, rfl⟩, eu⟩
  subst u
  show PW _ _ _ _ _ _ (26, [(0, .ref 467), (1, .ref o), (2, .int (nI p)), (3, .int (nI q))], [.long v4, .long v3, .long v2, .long v1, .ref o, .ref 467], w)
  refine P_aload_n d_MD_crossesPoints_26 rfl ?_
  refine P_iload_n d_MD_crossesPoints_27 rfl ?_
  refine P_iconst (v := 1) d_MD_crossesPoints_28 (by decide) ?_
  refine P_callVz 20 (by decide) (M := M_MD_crossesPoints) (pc := 29) (as := [.int (nI q), .int 1]) (b := 467) d_MD_crossesPoints_29 co_MD_pointOf ok_Model em L_MD_250 im_MD_pointOf se_MD_pointOf (s_MD_pointOf q (by omega) 1 (by decide) em htp hqs hun en hnm e8 hnp e9) rfl ⟨by decide, by decide⟩ ⟨by decide, by decide⟩ (by exact le_b rfl) ?_ _ rfl
  rintro _ u ⟨⟨v5, rfl⟩, eu⟩
  subst u
  show PW _ _ _ _ _ _ (32, [(0, .ref 467), (1, .ref o), (2, .int (nI p)), (3, .int (nI q))], [.long v5, .long v4, .long v3, .long v2, .long v1, .ref o, .ref 467], w)
  refine P_aload_n d_MD_crossesPoints_32 rfl ?_
  refine P_iload_n d_MD_crossesPoints_33 rfl ?_
  refine P_iconst (v := 2) d_MD_crossesPoints_34 (by decide) ?_
  refine P_callVz 20 (by decide) (M := M_MD_crossesPoints) (pc := 35) (as := [.int (nI q), .int 2]) (b := 467) d_MD_crossesPoints_35 co_MD_pointOf ok_Model em L_MD_250 im_MD_pointOf se_MD_pointOf (s_MD_pointOf q (by omega) 2 (by decide) em htp hqs hun en hnm e8 hnp e9) rfl ⟨by decide, by decide⟩ ⟨by decide, by decide⟩ (by exact le_b rfl) ?_ _ rfl
  rintro _ u ⟨⟨v6, rfl⟩, eu⟩
  subst u
  show PW _ _ _ _ _ _ (38, [(0, .ref 467), (1, .ref o), (2, .int (nI p)), (3, .int (nI q))], [.long v6, .long v5, .long v4, .long v3, .long v2, .long v1, .ref o, .ref 467], w)
  refine P_callV (M := M_MD_crossesPoints) (pc := 38) (as := [.ref o, .long v1, .long v2, .long v3, .long v4, .long v5, .long v6]) (b := 467) d_MD_crossesPoints_38 co_MD_crosses ok_Model em L_MD_337 im_MD_crosses se_MD_crosses (s_MD_crosses hI (by omega) hko (by omega) v1 v2 v3 v4 v5 v6) rfl ⟨by decide, by decide⟩ ⟨by decide, by decide⟩ (by exact le_b rfl) ?_ _ rfl
  rintro _ w7 ⟨rfl, hI7, hG7⟩
  have hF7 : Fr SN w w7 := Fr.tr Fr.rf hG7.1
  obtain ⟨th7, rm7, um7, sm7, em7⟩ := hG7.2 (nI tp) (nI qs) nq (nI un) ln nl sz at_ pl so vl wo fa fp lf lp ⟨_, _, _, _, em⟩
  show PW _ _ _ _ _ _ (41, [(0, .ref 467), (1, .ref o), (2, .int (nI p)), (3, .int (nI q))], [], w7)
  exact P_vret d_MD_crossesPoints_41 rfl (le_b rfl) (le_b rfl) ⟨rfl, hI7, FrM.of hF7 ⟨_, _, _, _, em⟩ ⟨_, _, _, _, em7⟩⟩
theorem s_MD_alike {G : pG} {w : pW} (hI : I w) (p : Nat) (hp : p < 8) (q : Nat) (hq : q < 8) : PM G M_MD_alike 2 0 0 [.ref 467, .int (nI p), .int (nI q)] w (fun r w' => (∃ v, r = some (.int (bi v))) ∧ I w' ∧ FrM w w') := by
  refine PM_of pn_MD_alike (le_b rfl) ?_
  show PW _ _ _ _ _ _ (0, [(0, .ref 467), (1, .int (nI p)), (2, .int (nI q))], [], w)
  obtain ⟨tp, qs, un, nq, ln, nl, sz, at_, pl, so, vl, wo, fa, fp, lf, lp, th, rm, um, sm, htp, hqs, hun, em⟩ := hI.md
  obtain ⟨fn, nm, np, en, hnm, e8, hnp, e9⟩ := hI.now
  refine P_aload_n d_MD_alike_0 rfl ?_
  refine P_aload_n d_MD_alike_1 rfl ?_
  refine P_getf (i := 29) d_MD_alike_2 ok_Model (by decide) L_MD_53 em rfl ?_
  refine P_iload_n d_MD_alike_5 rfl ?_
  refine P_iload_n d_MD_alike_6 rfl ?_
  refine P_callV (M := M_MD_alike) (pc := 7) (as := [.ref 480, .int (nI p), .int (nI q)]) (b := 467) d_MD_alike_7 co_MD_crossesPoints ok_Model em L_MD_341 im_MD_crossesPoints se_MD_crossesPoints (s_MD_crossesPoints hI (by decide) kc_480 (by omega) p (by omega) q (by omega)) rfl ⟨by decide, by decide⟩ ⟨by decide, by decide⟩ (by exact le_b rfl) ?_ _ rfl
  rintro _ w1 ⟨rfl, hI1, hG1⟩
  have hF1 : Fr SN w w1 := Fr.tr Fr.rf hG1.1
  obtain ⟨th1, rm1, um1, sm1, em1⟩ := hG1.2 (nI tp) (nI qs) nq (nI un) ln nl sz at_ pl so vl wo fa fp lf lp ⟨_, _, _, _, em⟩
  show PW _ _ _ _ _ _ (10, [(0, .ref 467), (1, .int (nI p)), (2, .int (nI q))], [], w1)
  refine P_aload_n d_MD_alike_10 rfl ?_
  refine P_getf (i := 29) d_MD_alike_11 ok_Model (by decide) L_MD_53 em1 rfl ?_
  obtain ⟨f2, f2e⟩ := hI1.row (r := 480) (by decide) kc_480
  refine P_callS (M := M_MD_alike) (pc := 14) (as := [.ref 480]) d_MD_alike_14 co_MD_isNone L_MD_345 sm_MD_isNone (s_MD_isNone f2e) rfl ⟨by decide, by decide⟩ ⟨by decide, by decide⟩ (by exact le_b rfl) ?_ _ rfl
  rintro _ u ⟨⟨v3, rfl⟩, eu⟩
  subst u
  show PW _ _ _ _ _ _ (17, [(0, .ref 467), (1, .int (nI p)), (2, .int (nI q))], [.int (bi v3)], w1)
  exact P_zret d_MD_alike_17 rfl (nar_bi _) (le_b rfl) (le_b rfl) ⟨⟨_, rfl⟩, hI1, FrM.of hF1 ⟨_, _, _, _, em⟩ ⟨_, _, _, _, em1⟩⟩
theorem s_MD_areThree {G : pG} {w : pW} (hI : I w) (p : Nat) (hp : p < 8) (q : Nat) (hq : q < 8) (s : Nat) (hs : s < 8) : PM G M_MD_areThree 3 0 0 [.ref 467, .int (nI p), .int (nI q), .int (nI s)] w (fun r w' => (∃ v, r = some (.int (bi v))) ∧ I w' ∧ FrM w w') := by
  refine PM_of pn_MD_areThree (le_b rfl) ?_
  show PW _ _ _ _ _ _ (0, [(0, .ref 467), (1, .int (nI p)), (2, .int (nI q)), (3, .int (nI s))], [], w)
  obtain ⟨tp, qs, un, nq, ln, nl, sz, at_, pl, so, vl, wo, fa, fp, lf, lp, th, rm, um, sm, htp, hqs, hun, em⟩ := hI.md
  obtain ⟨fn, nm, np, en, hnm, e8, hnp, e9⟩ := hI.now
  refine P_aload_n d_MD_areThree_0 rfl ?_
  refine P_iload_n d_MD_areThree_1 rfl ?_
  refine P_iload_n d_MD_areThree_2 rfl ?_
  refine P_callV (M := M_MD_areThree) (pc := 3) (as := [.int (nI p), .int (nI q)]) (b := 467) d_MD_areThree_3 co_MD_alike ok_Model em L_MD_353 im_MD_alike se_MD_alike (s_MD_alike hI p (by omega) q (by omega)) rfl ⟨by decide, by decide⟩ ⟨by decide, by decide⟩ (by exact le_b rfl) ?_ _ rfl
  rintro _ w1 ⟨⟨v1, rfl⟩, hI1, hG1⟩
  have hF1 : Fr SN w w1 := Fr.tr Fr.rf hG1.1
  obtain ⟨th1, rm1, um1, sm1, em1⟩ := hG1.2 (nI tp) (nI qs) nq (nI un) ln nl sz at_ pl so vl wo fa fp lf lp ⟨_, _, _, _, em⟩
  show PW _ _ _ _ _ _ (6, [(0, .ref 467), (1, .int (nI p)), (2, .int (nI q)), (3, .int (nI s))], [.int (bi v1)], w1)
  refine P_if_eq 22 d_MD_areThree_6 (by decide) (fun c2 => ?_) (fun c2 => ?_)
  · refine P_iconst (v := 0) d_MD_areThree_22 (by decide) ?_
    exact P_zret d_MD_areThree_23 rfl rfl (le_b rfl) (le_b rfl) ⟨⟨false, rfl⟩, hI1, FrM.of hF1 ⟨_, _, _, _, em⟩ ⟨_, _, _, _, em1⟩⟩
  · refine P_aload_n d_MD_areThree_9 rfl ?_
    refine P_iload_n d_MD_areThree_10 rfl ?_
    refine P_iload_n d_MD_areThree_11 rfl ?_
    refine P_callV (M := M_MD_areThree) (pc := 12) (as := [.int (nI p), .int (nI s)]) (b := 467) d_MD_areThree_12 co_MD_alike ok_Model em1 L_MD_353 im_MD_alike se_MD_alike (s_MD_alike hI1 p (by omega) s (by omega)) rfl ⟨by decide, by decide⟩ ⟨by decide, by decide⟩ (by exact le_b rfl) ?_ _ rfl
    rintro _ w3 ⟨⟨v3, rfl⟩, hI3, hG3⟩
    have hF3 : Fr SN w w3 := Fr.tr hF1 hG3.1
    obtain ⟨th3, rm3, um3, sm3, em3⟩ := hG3.2 (nI tp) (nI qs) nq (nI un) ln nl sz at_ pl so vl wo fa fp lf lp ⟨_, _, _, _, em1⟩
    show PW _ _ _ _ _ _ (15, [(0, .ref 467), (1, .int (nI p)), (2, .int (nI q)), (3, .int (nI s))], [.int (bi v3)], w3)
    refine P_if_eq 22 d_MD_areThree_15 (by decide) (fun c4 => ?_) (fun c4 => ?_)
    · refine P_iconst (v := 0) d_MD_areThree_22 (by decide) ?_
      exact P_zret d_MD_areThree_23 rfl rfl (le_b rfl) (le_b rfl) ⟨⟨false, rfl⟩, hI3, FrM.of hF3 ⟨_, _, _, _, em⟩ ⟨_, _, _, _, em3⟩⟩
    · refine P_iconst (v := 1) d_MD_areThree_18 (by decide) ?_
      refine P_goto 23 d_MD_areThree_19 (by decide) ?_
      exact P_zret d_MD_areThree_23 rfl rfl (le_b rfl) (le_b rfl) ⟨⟨true, rfl⟩, hI3, FrM.of hF3 ⟨_, _, _, _, em⟩ ⟨_, _, _, _, em3⟩⟩
theorem s_MD_tracks {G : pG} {w : pW} (hI : I w) (m : Nat) (hm : m < 16) (p : Nat) (hp : p < 8) (k : Nat) (hk : k < 21) : PM G M_MD_tracks 5 0 0 [.ref 467, .int (nI m), .int (nI p), .int (nI k)] w (fun r w' => (∃ v, r = some (.int (bi v))) ∧ I w' ∧ FrM w w') := by
  refine PM_of pn_MD_tracks (le_b rfl) ?_
  show PW _ _ _ _ _ _ (0, [(0, .ref 467), (1, .int (nI m)), (2, .int (nI p)), (3, .int (nI k))], [], w)
  obtain ⟨tp, qs, un, nq, ln, nl, sz, at_, pl, so, vl, wo, fa, fp, lf, lp, th, rm, um, sm, htp, hqs, hun, em⟩ := hI.md
  obtain ⟨fn, nm, np, en, hnm, e8, hnp, e9⟩ := hI.now
  refine P_aload_n d_MD_tracks_0 rfl ?_
  refine P_aload_n d_MD_tracks_1 rfl ?_
  refine P_iload_n d_MD_tracks_2 rfl ?_
  refine P_iconst (v := 0) d_MD_tracks_3 (by decide) ?_
  refine P_callV (M := M_MD_tracks) (pc := 4) (as := [.int (nI p), .int 0]) (b := 467) d_MD_tracks_4 co_MD_pointOf ok_Model em L_MD_250 im_MD_pointOf se_MD_pointOf (s_MD_pointOf p (by omega) 0 (by decide) em htp hqs hun en hnm e8 hnp e9) rfl ⟨by decide, by decide⟩ ⟨by decide, by decide⟩ (by exact le_b rfl) ?_ _ rfl
  rintro _ u ⟨⟨v1, rfl⟩, eu⟩
  subst u
  show PW _ _ _ _ _ _ (7, [(0, .ref 467), (1, .int (nI m)), (2, .int (nI p)), (3, .int (nI k))], [.long v1, .ref 467], w)
  refine P_aload_n d_MD_tracks_7 rfl ?_
  refine P_iload_n d_MD_tracks_8 rfl ?_
  refine P_iconst (v := 1) d_MD_tracks_9 (by decide) ?_
  refine P_callV (M := M_MD_tracks) (pc := 10) (as := [.int (nI p), .int 1]) (b := 467) d_MD_tracks_10 co_MD_pointOf ok_Model em L_MD_250 im_MD_pointOf se_MD_pointOf (s_MD_pointOf p (by omega) 1 (by decide) em htp hqs hun en hnm e8 hnp e9) rfl ⟨by decide, by decide⟩ ⟨by decide, by decide⟩ (by exact le_b rfl) ?_ _ rfl
  rintro _ u ⟨⟨v2, rfl⟩, eu⟩
  subst u
  show PW _ _ _ _ _ _ (13, [(0, .ref 467), (1, .int (nI m)), (2, .int (nI p)), (3, .int (nI k))], [.long v2, .long v1, .ref 467], w)
  refine P_aload_n d_MD_tracks_13 rfl ?_
  refine P_iload_n d_MD_tracks_14 rfl ?_
  refine P_iconst (v := 2) d_MD_tracks_15 (by decide) ?_
  refine P_callV (M := M_MD_tracks) (pc := 16) (as := [.int (nI p), .int 2]) (b := 467) d_MD_tracks_16 co_MD_pointOf ok_Model em L_MD_250 im_MD_pointOf se_MD_pointOf (s_MD_pointOf p (by omega) 2 (by decide) em htp hqs hun en hnm e8 hnp e9) rfl ⟨by decide, by decide⟩ ⟨by decide, by decide⟩ (by exact le_b rfl) ?_ _ rfl
  rintro _ u ⟨⟨v3, rfl⟩, eu⟩
  subst u
  show PW _ _ _ _ _ _ (19, [(0, .ref 467), (1, .int (nI m)), (2, .int (nI p)), (3, .int (nI k))], [.long v3, .long v2, .long v1, .ref 467], w)
  refine P_callV (M := M_MD_tracks) (pc := 19) (as := [.long v1, .long v2, .long v3]) (b := 467) d_MD_tracks_19 co_MD_laysThree ok_Model em L_MD_179 im_MD_laysThree se_MD_laysThree (s_MD_laysThree hI v1 v2 v3) rfl ⟨by decide, by decide⟩ ⟨by decide, by decide⟩ (by exact le_b rfl) ?_ _ rfl
  rintro _ w4 ⟨rfl, hI4, hG4⟩
  have hF4 : Fr SN w w4 := Fr.tr Fr.rf hG4.1
  obtain ⟨th4, rm4, um4, sm4, em4⟩ := hG4.2 (nI tp) (nI qs) nq (nI un) ln nl sz at_ pl so vl wo fa fp lf lp ⟨_, _, _, _, em⟩
  show PW _ _ _ _ _ _ (22, [(0, .ref 467), (1, .int (nI m)), (2, .int (nI p)), (3, .int (nI k))], [], w4)
  refine P_aload_n d_MD_tracks_22 rfl ?_
  refine P_aload_n d_MD_tracks_23 rfl ?_
  refine P_getf (i := 26) d_MD_tracks_24 ok_Model (by decide) L_MD_44 em4 rfl ?_
  refine P_iload_n d_MD_tracks_27 rfl ?_
  refine P_callV (M := M_MD_tracks) (pc := 28) (as := [.ref 477, .int (nI m)]) (b := 467) d_MD_tracks_28 co_MD_takes ok_Model em4 L_MD_274 im_MD_takes se_MD_takes (s_MD_takes hI4 (by decide) kc_477 (by omega) m (by omega)) rfl ⟨by decide, by decide⟩ ⟨by decide, by decide⟩ (by exact le_b rfl) ?_ _ rfl
  rintro _ w5 ⟨rfl, hI5, hG5⟩
  have hF5 : Fr SN w w5 := Fr.tr hF4 hG5.1
  obtain ⟨th5, rm5, um5, sm5, em5⟩ := hG5.2 (nI tp) (nI qs) nq (nI un) ln nl sz at_ pl so vl wo fa fp lf lp ⟨_, _, _, _, em4⟩
  show PW _ _ _ _ _ _ (31, [(0, .ref 467), (1, .int (nI m)), (2, .int (nI p)), (3, .int (nI k))], [], w5)
  refine P_iconst (v := 0) d_MD_tracks_31 (by decide) ?_
  refine P_istore d_MD_tracks_32 (by decide) rfl ?_
  refine PW_ind (σ := pW) (k) (fun jj ss => I (ss) ∧ Fr SN w (ss) ∧ MS (nI tp) (nI qs) nq (nI un) ln nl sz at_ pl so vl wo fa fp lf lp ((ss).2 467)) (fun jj ss => (34, [(0, .ref 467), (1, .int (nI m)), (2, .int (nI p)), (3, .int (nI k)), (4, .int (nI jj))], [], ss)) ?_ ?_ 0 (w5) (by omega) ⟨hI5, hF5, ⟨_, _, _, _, em5⟩⟩
  · rintro uj6 ⟨hIj6, hFj6, ⟨thj6, rmj6, umj6, smj6, emj6⟩⟩
    show PW _ _ _ _ _ _ (34, [(0, .ref 467), (1, .int (nI m)), (2, .int (nI p)), (3, .int (nI k)), (4, .int (nI k))], [], uj6)
    refine P_iload d_MD_tracks_34 rfl ?_
    refine P_iload_n d_MD_tracks_36 rfl ?_
    refine P_icmp_ge 81 d_MD_tracks_37 (by decide) (fun _ => ?_) (fun h => absurd (Int32.le_refl _) h)
    refine P_iconst (v := 1) d_MD_tracks_81 (by decide) ?_
    exact P_zret d_MD_tracks_82 rfl rfl (le_b rfl) (le_b rfl) ⟨⟨true, rfl⟩, hIj6, FrM.of hFj6 ⟨_, _, _, _, em⟩ ⟨_, _, _, _, emj6⟩⟩
  · rintro j6 uj6 hj6 ⟨hIj6, hFj6, ⟨thj6, rmj6, umj6, smj6, emj6⟩⟩ kkj6
    show PW _ _ _ _ _ _ (34, [(0, .ref 467), (1, .int (nI m)), (2, .int (nI p)), (3, .int (nI k)), (4, .int (nI j6))], [], uj6)
    refine P_iload d_MD_tracks_34 rfl ?_
    refine P_iload_n d_MD_tracks_36 rfl ?_
    refine P_icmp_ge 81 d_MD_tracks_37 (by decide) (fun h => absurd h (nI_geF (a := j6) (b := k) (by omega) (by omega))) (fun _ => ?_)
    refine P_aload_n d_MD_tracks_40 rfl ?_
    refine P_aload_n d_MD_tracks_41 rfl ?_
    refine P_getf (i := 26) d_MD_tracks_42 ok_Model (by decide) L_MD_44 emj6 rfl ?_
    refine P_aload_n d_MD_tracks_45 rfl ?_
    refine P_getf (i := 28) d_MD_tracks_46 ok_Model (by decide) L_MD_50 emj6 rfl ?_
    refine P_iconst (v := 0) d_MD_tracks_49 (by decide) ?_
    obtain ⟨f7, f7e⟩ := hIj6.row (r := 479) (by decide) kc_479
    refine P_lald (j := 0) d_MD_tracks_50 f7e ⟨by decide, by decide⟩ (by decide) ?_
    refine P_aload_n d_MD_tracks_51 rfl ?_
    refine P_getf (i := 28) d_MD_tracks_52 ok_Model (by decide) L_MD_50 emj6 rfl ?_
    refine P_iconst (v := 1) d_MD_tracks_55 (by decide) ?_
    refine P_lald (j := 1) d_MD_tracks_56 f7e ⟨by decide, by decide⟩ (by decide) ?_
    refine P_aload_n d_MD_tracks_57 rfl ?_
    refine P_getf (i := 28) d_MD_tracks_58 ok_Model (by decide) L_MD_50 emj6 rfl ?_
    refine P_iconst (v := 2) d_MD_tracks_61 (by decide) ?_
    refine P_lald (j := 2) d_MD_tracks_62 f7e ⟨by decide, by decide⟩ (by decide) ?_
    refine P_callV (M := M_MD_tracks) (pc := 63) (as := [.ref 477, .long (f7 0), .long (f7 1), .long (f7 2)]) (b := 467) d_MD_tracks_63 co_MD_images ok_Model emj6 L_MD_294 im_MD_images se_MD_images (s_MD_images hIj6 (by decide) kc_477 (f7 0) (f7 1) (f7 2)) rfl ⟨by decide, by decide⟩ ⟨by decide, by decide⟩ (by exact le_b rfl) ?_ _ rfl
    rintro _ w8 ⟨rfl, hI8, hG8⟩
    have hF8 : Fr SN w w8 := Fr.tr hFj6 hG8.1
    obtain ⟨th8, rm8, um8, sm8, em8⟩ := hG8.2 (nI tp) (nI qs) nq (nI un) ln nl sz at_ pl so vl wo fa fp lf lp ⟨_, _, _, _, emj6⟩
    show PW _ _ _ _ _ _ (66, [(0, .ref 467), (1, .int (nI m)), (2, .int (nI p)), (3, .int (nI k)), (4, .int (nI j6))], [], w8)
    refine P_aload_n d_MD_tracks_66 rfl ?_
    obtain ⟨f9, f9e⟩ := hI8.row (r := 479) (by decide) kc_479
    refine P_callV (M := M_MD_tracks) (pc := 67) (as := []) (b := 467) d_MD_tracks_67 co_MD_hasEdges ok_Model em8 L_MD_362 im_MD_hasEdges se_MD_hasEdges (s_MD_hasEdges em8 htp hqs hun f9e) rfl ⟨by decide, by decide⟩ ⟨by decide, by decide⟩ (by exact le_b rfl) ?_ _ rfl
    rintro _ u ⟨⟨v10, rfl⟩, eu⟩
    subst u
    show PW _ _ _ _ _ _ (70, [(0, .ref 467), (1, .int (nI m)), (2, .int (nI p)), (3, .int (nI k)), (4, .int (nI j6))], [.int (bi v10)], w8)
    refine P_if_ne 75 d_MD_tracks_70 (by decide) (fun c11 => ?_) (fun c11 => ?_)
    · refine P_iinc (v := nI (j6 + 1)) d_MD_tracks_75 (by decide) rfl (nI_add j6 1) rfl ?_
      refine P_goto 34 d_MD_tracks_78 (by decide) ?_
      exact kkj6 (w8) ⟨hI8, hF8, ⟨_, _, _, _, em8⟩⟩
    · refine P_iconst (v := 0) d_MD_tracks_73 (by decide) ?_
      exact P_zret d_MD_tracks_74 rfl rfl (le_b rfl) (le_b rfl) ⟨⟨false, rfl⟩, hI8, FrM.of hF8 ⟨_, _, _, _, em⟩ ⟨_, _, _, _, em8⟩⟩
theorem s_MD_joins {G : pG} {w : pW} (hI : I w) {o : Nat} (hlo : o < 487) (hko : Kc o = (1, 3, 0)) (hso : 476 ≤ o ∧ o < 486) (q : Nat) (hq : q < 8) (a : Nat) (ha : a < 4) (b : Nat) (hb : b < 4) : PM G M_MD_joins 1 0 0 [.ref 467, .ref o, .int (nI q), .int (nI a), .int (nI b)] w (fun r w' => r = none ∧ I w' ∧ FrM w w') := by
  refine PM_of pn_MD_joins (le_b rfl) ?_
  show PW _ _ _ _ _ _ (0, [(0, .ref 467), (1, .ref o), (2, .int (nI q)), (3, .int (nI a)), (4, .int (nI b))], [], w)
  obtain ⟨tp, qs, un, nq, ln, nl, sz, at_, pl, so, vl, wo, fa, fp, lf, lp, th, rm, um, sm, htp, hqs, hun, em⟩ := hI.md
  obtain ⟨fn, nm, np, en, hnm, e8, hnp, e9⟩ := hI.now
  obtain ⟨f469, r469⟩ := hI.ints (r := 469) (by decide) kc_469
  refine P_aload_n d_MD_joins_0 rfl ?_
  refine P_aload_n d_MD_joins_1 rfl ?_
  refine P_aload_n d_MD_joins_2 rfl ?_
  refine P_getf (i := 3) d_MD_joins_3 ok_Model (by decide) L_MD_15 em rfl ?_
  refine P_bipush (v := 8) d_MD_joins_6 (by decide) ?_
  refine P_iload_n d_MD_joins_8 rfl ?_
  refine P_imulN (a := 8) (b := q) d_MD_joins_9 ?_
  show PW _ _ _ _ _ _ (10, [(0, .ref 467), (1, .ref o), (2, .int (nI q)), (3, .int (nI a)), (4, .int (nI b))], [.int (nI (8 * q)), .ref 469, .ref o, .ref 467], w)
  refine P_iconst (v := 2) d_MD_joins_10 (by decide) ?_
  refine P_iload_n d_MD_joins_11 rfl ?_
  refine P_imulN (a := 2) (b := a) d_MD_joins_12 ?_
  show PW _ _ _ _ _ _ (13, [(0, .ref 467), (1, .ref o), (2, .int (nI q)), (3, .int (nI a)), (4, .int (nI b))], [.int (nI (2 * a)), .int (nI (8 * q)), .ref 469, .ref o, .ref 467], w)
  refine P_iaddN (a := (8 * q)) (b := (2 * a)) d_MD_joins_13 ?_
  show PW _ _ _ _ _ _ (14, [(0, .ref 467), (1, .ref o), (2, .int (nI q)), (3, .int (nI a)), (4, .int (nI b))], [.int (nI ((8 * q) + (2 * a))), .ref 469, .ref o, .ref 467], w)
  refine P_iald (j := (8 * q) + (2 * a)) d_MD_joins_14 r469 (ix_nI (by omega)) (by omega) ?_
  refine P_i2l d_MD_joins_15 ?_
  refine P_aload_n d_MD_joins_16 rfl ?_
  refine P_getf (i := 3) d_MD_joins_17 ok_Model (by decide) L_MD_15 em rfl ?_
  refine P_bipush (v := 8) d_MD_joins_20 (by decide) ?_
  refine P_iload_n d_MD_joins_22 rfl ?_
  refine P_imulN (a := 8) (b := q) d_MD_joins_23 ?_
  show PW _ _ _ _ _ _ (24, [(0, .ref 467), (1, .ref o), (2, .int (nI q)), (3, .int (nI a)), (4, .int (nI b))], [.int (nI (8 * q)), .ref 469, .long ((f469 ((8 * q) + (2 * a))).toInt64), .ref o, .ref 467], w)
  refine P_iconst (v := 2) d_MD_joins_24 (by decide) ?_
  refine P_iload_n d_MD_joins_25 rfl ?_
  refine P_imulN (a := 2) (b := a) d_MD_joins_26 ?_
  show PW _ _ _ _ _ _ (27, [(0, .ref 467), (1, .ref o), (2, .int (nI q)), (3, .int (nI a)), (4, .int (nI b))], [.int (nI (2 * a)), .int (nI (8 * q)), .ref 469, .long ((f469 ((8 * q) + (2 * a))).toInt64), .ref o, .ref 467], w)
  refine P_iaddN (a := (8 * q)) (b := (2 * a)) d_MD_joins_27 ?_
  show PW _ _ _ _ _ _ (28, [(0, .ref 467), (1, .ref o), (2, .int (nI q)), (3, .int (nI a)), (4, .int (nI b))], [.int (nI ((8 * q) + (2 * a))), .ref 469, .long ((f469 ((8 * q) + (2 * a))).toInt64), .ref o, .ref 467], w)
  refine P_iconst (v := 1) d_MD_joins_28 (by decide) ?_
  refine P_iaddN (a := ((8 * q) + (2 * a))) (b := 1) d_MD_joins_29 ?_
  show PW _ _ _ _ _ _ (30, [(0, .ref 467), (1, .ref o), (2, .int (nI q)), (3, .int (nI a)), (4, .int (nI b))], [.int (nI (((8 * q) + (2 * a)) + 1)), .ref 469, .long ((f469 ((8 * q) + (2 * a))).toInt64), .ref o, .ref 467], w)
  refine P_iald (j := ((8 * q) + (2 * a)) + 1) d_MD_joins_30 r469 (ix_nI (by omega)) (by omega) ?_
  refine P_i2l d_MD_joins_31 ?_
  refine P_lconst (v := 1) d_MD_joins_32 (by decide) ?_
  refine P_aload_n d_MD_joins_33 rfl ?_
  refine P_getf (i := 3) d_MD_joins_34 ok_Model (by decide) L_MD_15 em rfl ?_
  refine P_bipush (v := 8) d_MD_joins_37 (by decide) ?_
  refine P_iload_n d_MD_joins_39 rfl ?_
  refine P_imulN (a := 8) (b := q) d_MD_joins_40 ?_
  show PW _ _ _ _ _ _ (41, [(0, .ref 467), (1, .ref o), (2, .int (nI q)), (3, .int (nI a)), (4, .int (nI b))], [.int (nI (8 * q)), .ref 469, .long 1, .long ((f469 (((8 * q) + (2 * a)) + 1)).toInt64), .long ((f469 ((8 * q) + (2 * a))).toInt64), .ref o, .ref 467], w)
  refine P_iconst (v := 2) d_MD_joins_41 (by decide) ?_
  refine P_iload d_MD_joins_42 rfl ?_
  refine P_imulN (a := 2) (b := b) d_MD_joins_44 ?_
  show PW _ _ _ _ _ _ (45, [(0, .ref 467), (1, .ref o), (2, .int (nI q)), (3, .int (nI a)), (4, .int (nI b))], [.int (nI (2 * b)), .int (nI (8 * q)), .ref 469, .long 1, .long ((f469 (((8 * q) + (2 * a)) + 1)).toInt64), .long ((f469 ((8 * q) + (2 * a))).toInt64), .ref o, .ref 467], w)
  refine P_iaddN (a := (8 * q)) (b := (2 * b)) d_MD_joins_45 ?_
  show PW _ _ _ _ _ _ (46, [(0, .ref 467), (1, .ref o), (2, .int (nI q)), (3, .int (nI a)), (4, .int (nI b))], [.int (nI ((8 * q) + (2 * b))), .ref 469, .long 1, .long ((f469 (((8 * q) + (2 * a)) + 1)).toInt64), .long ((f469 ((8 * q) + (2 * a))).toInt64), .ref o, .ref 467], w)
  refine P_iald (j := (8 * q) + (2 * b)) d_MD_joins_46 r469 (ix_nI (by omega)) (by omega) ?_
  refine P_i2l d_MD_joins_47 ?_
  refine P_aload_n d_MD_joins_48 rfl ?_
  refine P_getf (i := 3) d_MD_joins_49 ok_Model (by decide) L_MD_15 em rfl ?_
  refine P_bipush (v := 8) d_MD_joins_52 (by decide) ?_
  refine P_iload_n d_MD_joins_54 rfl ?_
  refine P_imulN (a := 8) (b := q) d_MD_joins_55 ?_
  show PW _ _ _ _ _ _ (56, [(0, .ref 467), (1, .ref o), (2, .int (nI q)), (3, .int (nI a)), (4, .int (nI b))], [.int (nI (8 * q)), .ref 469, .long ((f469 ((8 * q) + (2 * b))).toInt64), .long 1, .long ((f469 (((8 * q) + (2 * a)) + 1)).toInt64), .long ((f469 ((8 * q) + (2 * a))).toInt64), .ref o, .ref 467], w)
  refine P_iconst (v := 2) d_MD_joins_56 (by decide) ?_
  refine P_iload d_MD_joins_57 rfl ?_
  refine P_imulN (a := 2) (b := b) d_MD_joins_59 ?_
  show PW _ _ _ _ _ _ (60, [(0, .ref 467), (1, .ref o), (2, .int (nI q)), (3, .int (nI a)), (4, .int (nI b))], [.int (nI (2 * b)), .int (nI (8 * q)), .ref 469, .long ((f469 ((8 * q) + (2 * b))).toInt64), .long 1, .long ((f469 (((8 * q) + (2 * a)) + 1)).toInt64), .long ((f469 ((8 * q) + (2 * a))).toInt64), .ref o, .ref 467], w)
  refine P_iaddN (a := (8 * q)) (b := (2 * b)) d_MD_joins_60 ?_
  show PW _ _ _ _ _ _ (61, [(0, .ref 467), (1, .ref o), (2, .int (nI q)), (3, .int (nI a)), (4, .int (nI b))], [.int (nI ((8 * q) + (2 * b))), .ref 469, .long ((f469 ((8 * q) + (2 * b))).toInt64), .long 1, .long ((f469 (((8 * q) + (2 * a)) + 1)).toInt64), .long ((f469 ((8 * q) + (2 * a))).toInt64), .ref o, .ref 467], w)
  refine P_iconst (v := 1) d_MD_joins_61 (by decide) ?_
  refine P_iaddN (a := ((8 * q) + (2 * b))) (b := 1) d_MD_joins_62 ?_
  show PW _ _ _ _ _ _ (63, [(0, .ref 467), (1, .ref o), (2, .int (nI q)), (3, .int (nI a)), (4, .int (nI b))], [.int (nI (((8 * q) + (2 * b)) + 1)), .ref 469, .long ((f469 ((8 * q) + (2 * b))).toInt64), .long 1, .long ((f469 (((8 * q) + (2 * a)) + 1)).toInt64), .long ((f469 ((8 * q) + (2 * a))).toInt64), .ref o, .ref 467], w)
  refine P_iald (j := ((8 * q) + (2 * b)) + 1) d_MD_joins_63 r469 (ix_nI (by omega)) (by omega) ?_
  refine P_i2l d_MD_joins_64 ?_
  refine P_lconst (v := 1) d_MD_joins_65 (by decide) ?_
  refine P_callV (M := M_MD_joins) (pc := 66) (as := [.ref o, .long ((f469 ((8 * q) + (2 * a))).toInt64), .long ((f469 (((8 * q) + (2 * a)) + 1)).toInt64), .long 1, .long ((f469 ((8 * q) + (2 * b))).toInt64), .long ((f469 (((8 * q) + (2 * b)) + 1)).toInt64), .long 1]) (b := 467) d_MD_joins_66 co_MD_crosses ok_Model em L_MD_337 im_MD_crosses se_MD_crosses (s_MD_crosses hI (by omega) hko (by omega) ((f469 ((8 * q) + (2 * a))).toInt64) ((f469 (((8 * q) + (2 * a)) + 1)).toInt64) 1 ((f469 ((8 * q) + (2 * b))).toInt64) ((f469 (((8 * q) + (2 * b)) + 1)).toInt64) 1) rfl ⟨by decide, by decide⟩ ⟨by decide, by decide⟩ (by exact le_b rfl) ?_ _ rfl
  rintro _ w1 ⟨rfl, hI1, hG1⟩
  have hF1 : Fr SN w w1 := Fr.tr Fr.rf hG1.1
  obtain ⟨th1, rm1, um1, sm1, em1⟩ := hG1.2 (nI tp) (nI qs) nq (nI un) ln nl sz at_ pl so vl wo fa fp lf lp ⟨_, _, _, _, em⟩
  show PW _ _ _ _ _ _ (69, [(0, .ref 467), (1, .ref o), (2, .int (nI q)), (3, .int (nI a)), (4, .int (nI b))], [], w1)
  exact P_vret d_MD_joins_69 rfl (le_b rfl) (le_b rfl) ⟨rfl, hI1, FrM.of hF1 ⟨_, _, _, _, em⟩ ⟨_, _, _, _, em1⟩⟩
theorem s_MD_laysDiagonal {G : pG} {w : pW} (hI : I w) (q : Nat) (hq : q < 8) (k : Nat) (hk : k < 3) : PM G M_MD_laysDiagonal 3 0 0 [.ref 467, .int (nI q), .int (nI k)] w (fun r w' => r = none ∧ I w' ∧ FrM w w') := by
  refine PM_of pn_MD_laysDiagonal (le_b rfl) ?_
  show PW _ _ _ _ _ _ (0, [(0, .ref 467), (1, .int (nI q)), (2, .int (nI k))], [], w)
  obtain ⟨tp, qs, un, nq, ln, nl, sz, at_, pl, so, vl, wo, fa, fp, lf, lp, th, rm, um, sm, htp, hqs, hun, em⟩ := hI.md
  obtain ⟨fn, nm, np, en, hnm, e8, hnp, e9⟩ := hI.now
  refine P_aload_n d_MD_laysDiagonal_0 rfl ?_
  refine P_aload_n d_MD_laysDiagonal_1 rfl ?_
  refine P_getf (i := 28) d_MD_laysDiagonal_2 ok_Model (by decide) L_MD_50 em rfl ?_
  refine P_iload_n d_MD_laysDiagonal_5 rfl ?_
  refine P_iload_n d_MD_laysDiagonal_6 rfl ?_
  refine P_iconst (v := 1) d_MD_laysDiagonal_7 (by decide) ?_
  refine P_icmp_ne 15 d_MD_laysDiagonal_8 (by decide) (fun c1 => ?_) (fun c1 => ?_)
  · have ic1 : k ≠ 1 := fun q => c1 (congrArg nI q)
    refine P_iconst (v := 0) d_MD_laysDiagonal_15 (by decide) ?_
    refine P_iload_n d_MD_laysDiagonal_16 rfl ?_
    refine P_if_ne 24 d_MD_laysDiagonal_17 (by decide) (fun c2 => ?_) (fun c2 => ?_)
    · have ic2 : k ≠ 0 := fun q => c2 (congrArg nI q)
      refine P_iconst (v := 2) d_MD_laysDiagonal_24 (by decide) ?_
      refine P_callV (M := M_MD_laysDiagonal) (pc := 25) (as := [.ref 479, .int (nI q), .int 0, .int 2]) (b := 467) d_MD_laysDiagonal_25 co_MD_joins ok_Model em L_MD_400 im_MD_joins se_MD_joins (s_MD_joins hI (by decide) kc_479 (by omega) q (by omega) 0 (by decide) 2 (by decide)) rfl ⟨by decide, by decide⟩ ⟨by decide, by decide⟩ (by exact le_b rfl) ?_ _ rfl
      rintro _ w3 ⟨rfl, hI3, hG3⟩
      have hF3 : Fr SN w w3 := Fr.tr Fr.rf hG3.1
      obtain ⟨th3, rm3, um3, sm3, em3⟩ := hG3.2 (nI tp) (nI qs) nq (nI un) ln nl sz at_ pl so vl wo fa fp lf lp ⟨_, _, _, _, em⟩
      show PW _ _ _ _ _ _ (28, [(0, .ref 467), (1, .int (nI q)), (2, .int (nI k))], [], w3)
      refine P_aload_n d_MD_laysDiagonal_28 rfl ?_
      refine P_aload_n d_MD_laysDiagonal_29 rfl ?_
      refine P_getf (i := 29) d_MD_laysDiagonal_30 ok_Model (by decide) L_MD_53 em3 rfl ?_
      refine P_iload_n d_MD_laysDiagonal_33 rfl ?_
      refine P_iload_n d_MD_laysDiagonal_34 rfl ?_
      refine P_if_ne 42 d_MD_laysDiagonal_35 (by decide) (fun _ => ?_) (fun h => absurd h c2)
      refine P_iload_n d_MD_laysDiagonal_42 rfl ?_
      refine P_iconst (v := 1) d_MD_laysDiagonal_43 (by decide) ?_
      refine P_icmp_ne 51 d_MD_laysDiagonal_44 (by decide) (fun _ => ?_) (fun h => absurd h c1)
      refine P_iconst (v := 1) d_MD_laysDiagonal_51 (by decide) ?_
      refine P_iload_n d_MD_laysDiagonal_52 rfl ?_
      refine P_iconst (v := 1) d_MD_laysDiagonal_53 (by decide) ?_
      refine P_icmp_ne 61 d_MD_laysDiagonal_54 (by decide) (fun _ => ?_) (fun h => absurd h c1)
      refine P_iconst (v := 3) d_MD_laysDiagonal_61 (by decide) ?_
      refine P_callV (M := M_MD_laysDiagonal) (pc := 62) (as := [.ref 480, .int (nI q), .int 1, .int 3]) (b := 467) d_MD_laysDiagonal_62 co_MD_joins ok_Model em3 L_MD_400 im_MD_joins se_MD_joins (s_MD_joins hI3 (by decide) kc_480 (by omega) q (by omega) 1 (by decide) 3 (by decide)) rfl ⟨by decide, by decide⟩ ⟨by decide, by decide⟩ (by exact le_b rfl) ?_ _ rfl
      rintro _ w4 ⟨rfl, hI4, hG4⟩
      have hF4 : Fr SN w w4 := Fr.tr hF3 hG4.1
      obtain ⟨th4, rm4, um4, sm4, em4⟩ := hG4.2 (nI tp) (nI qs) nq (nI un) ln nl sz at_ pl so vl wo fa fp lf lp ⟨_, _, _, _, em3⟩
      show PW _ _ _ _ _ _ (65, [(0, .ref 467), (1, .int (nI q)), (2, .int (nI k))], [], w4)
      refine P_aload_n d_MD_laysDiagonal_65 rfl ?_
      refine P_getf (i := 28) d_MD_laysDiagonal_66 ok_Model (by decide) L_MD_50 em4 rfl ?_
      refine P_iconst (v := 0) d_MD_laysDiagonal_69 (by decide) ?_
      obtain ⟨f5, f5e⟩ := hI4.row (r := 479) (by decide) kc_479
      refine P_lald (j := 0) d_MD_laysDiagonal_70 f5e ⟨by decide, by decide⟩ (by decide) ?_
      refine P_lstore_n d_MD_laysDiagonal_71 (by decide) rfl ?_
      refine P_aload_n d_MD_laysDiagonal_72 rfl ?_
      refine P_getf (i := 28) d_MD_laysDiagonal_73 ok_Model (by decide) L_MD_50 em4 rfl ?_
      refine P_iconst (v := 1) d_MD_laysDiagonal_76 (by decide) ?_
      refine P_lald (j := 1) d_MD_laysDiagonal_77 f5e ⟨by decide, by decide⟩ (by decide) ?_
      refine P_lstore d_MD_laysDiagonal_78 (by decide) rfl ?_
      refine P_aload_n d_MD_laysDiagonal_80 rfl ?_
      refine P_getf (i := 28) d_MD_laysDiagonal_81 ok_Model (by decide) L_MD_50 em4 rfl ?_
      refine P_iconst (v := 2) d_MD_laysDiagonal_84 (by decide) ?_
      refine P_lald (j := 2) d_MD_laysDiagonal_85 f5e ⟨by decide, by decide⟩ (by decide) ?_
      refine P_lstore d_MD_laysDiagonal_86 (by decide) rfl ?_
      refine P_aload_n d_MD_laysDiagonal_88 rfl ?_
      refine P_aload_n d_MD_laysDiagonal_89 rfl ?_
      refine P_getf (i := 28) d_MD_laysDiagonal_90 ok_Model (by decide) L_MD_50 em4 rfl ?_
      refine P_lload_n d_MD_laysDiagonal_93 rfl ?_
      refine P_lload d_MD_laysDiagonal_94 rfl ?_
      refine P_lload d_MD_laysDiagonal_96 rfl ?_
      refine P_aload_n d_MD_laysDiagonal_98 rfl ?_
      refine P_getf (i := 29) d_MD_laysDiagonal_99 ok_Model (by decide) L_MD_53 em4 rfl ?_
      refine P_iconst (v := 0) d_MD_laysDiagonal_102 (by decide) ?_
      obtain ⟨f6, f6e⟩ := hI4.row (r := 480) (by decide) kc_480
      refine P_lald (j := 0) d_MD_laysDiagonal_103 f6e ⟨by decide, by decide⟩ (by decide) ?_
      refine P_aload_n d_MD_laysDiagonal_104 rfl ?_
      refine P_getf (i := 29) d_MD_laysDiagonal_105 ok_Model (by decide) L_MD_53 em4 rfl ?_
      refine P_iconst (v := 1) d_MD_laysDiagonal_108 (by decide) ?_
      refine P_lald (j := 1) d_MD_laysDiagonal_109 f6e ⟨by decide, by decide⟩ (by decide) ?_
      refine P_aload_n d_MD_laysDiagonal_110 rfl ?_
      refine P_getf (i := 29) d_MD_laysDiagonal_111 ok_Model (by decide) L_MD_53 em4 rfl ?_
      refine P_iconst (v := 2) d_MD_laysDiagonal_114 (by decide) ?_
      refine P_lald (j := 2) d_MD_laysDiagonal_115 f6e ⟨by decide, by decide⟩ (by decide) ?_
      refine P_callV (M := M_MD_laysDiagonal) (pc := 116) (as := [.ref 479, .long (f5 0), .long (f5 1), .long (f5 2), .long (f6 0), .long (f6 1), .long (f6 2)]) (b := 467) d_MD_laysDiagonal_116 co_MD_crosses ok_Model em4 L_MD_337 im_MD_crosses se_MD_crosses (s_MD_crosses hI4 (by decide) kc_479 (by omega) (f5 0) (f5 1) (f5 2) (f6 0) (f6 1) (f6 2)) rfl ⟨by decide, by decide⟩ ⟨by decide, by decide⟩ (by exact le_b rfl) ?_ _ rfl
      rintro _ w7 ⟨rfl, hI7, hG7⟩
      have hF7 : Fr SN w w7 := Fr.tr hF4 hG7.1
      obtain ⟨th7, rm7, um7, sm7, em7⟩ := hG7.2 (nI tp) (nI qs) nq (nI un) ln nl sz at_ pl so vl wo fa fp lf lp ⟨_, _, _, _, em4⟩
      show PW _ _ _ _ _ _ (119, [(0, .ref 467), (1, .int (nI q)), (2, .int (nI k)), (3, .long (f5 0)), (5, .long (f5 1)), (7, .long (f5 2))], [], w7)
      refine P_aload_n d_MD_laysDiagonal_119 rfl ?_
      refine P_getf (i := 28) d_MD_laysDiagonal_120 ok_Model (by decide) L_MD_50 em7 rfl ?_
      obtain ⟨f8, f8e⟩ := hI7.row (r := 479) (by decide) kc_479
      refine P_callS (M := M_MD_laysDiagonal) (pc := 123) (as := [.ref 479]) d_MD_laysDiagonal_123 co_MD_reduces L_MD_220 sm_MD_reduces (v_MD_reduces f8e (by decide) (by decide) (by decide)) rfl ⟨by decide, by decide⟩ ⟨by decide, by decide⟩ (by exact le_b rfl) ?_ _ rfl
      rintro _ w9 ⟨rfl, g9, e9⟩
      have s9 := w_s e9
      have hI9 : I w9 := hI7.setL e9 kc_479
      have hF9 : Fr SN w w9 := Fr.set hF7 e9 (SN_t (by omega))
      show PW _ _ _ _ _ _ (126, [(0, .ref 467), (1, .int (nI q)), (2, .int (nI k)), (3, .long (f5 0)), (5, .long (f5 1)), (7, .long (f5 2))], [], w9)
      exact P_vret d_MD_laysDiagonal_126 rfl (le_b rfl) (le_b rfl) ⟨rfl, hI9, FrM.of hF9 ⟨_, _, _, _, em⟩ ⟨_, _, _, _, ((w_n e9 _ (by decide)).trans em7)⟩⟩
    · have ic2 : k = 0 := (nI_eq (by omega) (by omega)).mp c2
      refine P_iconst (v := 1) d_MD_laysDiagonal_20 (by decide) ?_
      refine P_goto 25 d_MD_laysDiagonal_21 (by decide) ?_
      refine P_callV (M := M_MD_laysDiagonal) (pc := 25) (as := [.ref 479, .int (nI q), .int 0, .int 1]) (b := 467) d_MD_laysDiagonal_25 co_MD_joins ok_Model em L_MD_400 im_MD_joins se_MD_joins (s_MD_joins hI (by decide) kc_479 (by omega) q (by omega) 0 (by decide) 1 (by decide)) rfl ⟨by decide, by decide⟩ ⟨by decide, by decide⟩ (by exact le_b rfl) ?_ _ rfl
      rintro _ w10 ⟨rfl, hI10, hG10⟩
      have hF10 : Fr SN w w10 := Fr.tr Fr.rf hG10.1
      obtain ⟨th10, rm10, um10, sm10, em10⟩ := hG10.2 (nI tp) (nI qs) nq (nI un) ln nl sz at_ pl so vl wo fa fp lf lp ⟨_, _, _, _, em⟩
      show PW _ _ _ _ _ _ (28, [(0, .ref 467), (1, .int (nI q)), (2, .int (nI k))], [], w10)
      refine P_aload_n d_MD_laysDiagonal_28 rfl ?_
      refine P_aload_n d_MD_laysDiagonal_29 rfl ?_
      refine P_getf (i := 29) d_MD_laysDiagonal_30 ok_Model (by decide) L_MD_53 em10 rfl ?_
      refine P_iload_n d_MD_laysDiagonal_33 rfl ?_
      refine P_iload_n d_MD_laysDiagonal_34 rfl ?_
      refine P_if_ne 42 d_MD_laysDiagonal_35 (by decide) (fun h => absurd c2 h) (fun _ => ?_)
      refine P_iconst (v := 2) d_MD_laysDiagonal_38 (by decide) ?_
      refine P_goto 52 d_MD_laysDiagonal_39 (by decide) ?_
      refine P_iload_n d_MD_laysDiagonal_52 rfl ?_
      refine P_iconst (v := 1) d_MD_laysDiagonal_53 (by decide) ?_
      refine P_icmp_ne 61 d_MD_laysDiagonal_54 (by decide) (fun _ => ?_) (fun h => absurd h c1)
      refine P_iconst (v := 3) d_MD_laysDiagonal_61 (by decide) ?_
      refine P_callV (M := M_MD_laysDiagonal) (pc := 62) (as := [.ref 480, .int (nI q), .int 2, .int 3]) (b := 467) d_MD_laysDiagonal_62 co_MD_joins ok_Model em10 L_MD_400 im_MD_joins se_MD_joins (s_MD_joins hI10 (by decide) kc_480 (by omega) q (by omega) 2 (by decide) 3 (by decide)) rfl ⟨by decide, by decide⟩ ⟨by decide, by decide⟩ (by exact le_b rfl) ?_ _ rfl
      rintro _ w11 ⟨rfl, hI11, hG11⟩
      have hF11 : Fr SN w w11 := Fr.tr hF10 hG11.1
      obtain ⟨th11, rm11, um11, sm11, em11⟩ := hG11.2 (nI tp) (nI qs) nq (nI un) ln nl sz at_ pl so vl wo fa fp lf lp ⟨_, _, _, _, em10⟩
      show PW _ _ _ _ _ _ (65, [(0, .ref 467), (1, .int (nI q)), (2, .int (nI k))], [], w11)
      refine P_aload_n d_MD_laysDiagonal_65 rfl ?_
      refine P_getf (i := 28) d_MD_laysDiagonal_66 ok_Model (by decide) L_MD_50 em11 rfl ?_
      refine P_iconst (v := 0) d_MD_laysDiagonal_69 (by decide) ?_
      obtain ⟨f12, f12e⟩ := hI11.row (r := 479) (by decide) kc_479
      refine P_lald (j := 0) d_MD_laysDiagonal_70 f12e ⟨by decide, by decide⟩ (by decide) ?_
      refine P_lstore_n d_MD_laysDiagonal_71 (by decide) rfl ?_
      refine P_aload_n d_MD_laysDiagonal_72 rfl ?_
      refine P_getf (i := 28) d_MD_laysDiagonal_73 ok_Model (by decide) L_MD_50 em11 rfl ?_
      refine P_iconst (v := 1) d_MD_laysDiagonal_76 (by decide) ?_
      refine P_lald (j := 1) d_MD_laysDiagonal_77 f12e ⟨by decide, by decide⟩ (by decide) ?_
      refine P_lstore d_MD_laysDiagonal_78 (by decide) rfl ?_
      refine P_aload_n d_MD_laysDiagonal_80 rfl ?_
      refine P_getf (i := 28) d_MD_laysDiagonal_81 ok_Model (by decide) L_MD_50 em11 rfl ?_
      refine P_iconst (v := 2) d_MD_laysDiagonal_84 (by decide) ?_
      refine P_lald (j := 2) d_MD_laysDiagonal_85 f12e ⟨by decide, by decide⟩ (by decide) ?_
      refine P_lstore d_MD_laysDiagonal_86 (by decide) rfl ?_
      refine P_aload_n d_MD_laysDiagonal_88 rfl ?_
      refine P_aload_n d_MD_laysDiagonal_89 rfl ?_
      refine P_getf (i := 28) d_MD_laysDiagonal_90 ok_Model (by decide) L_MD_50 em11 rfl ?_
      refine P_lload_n d_MD_laysDiagonal_93 rfl ?_
      refine P_lload d_MD_laysDiagonal_94 rfl ?_
      refine P_lload d_MD_laysDiagonal_96 rfl ?_
      refine P_aload_n d_MD_laysDiagonal_98 rfl ?_
      refine P_getf (i := 29) d_MD_laysDiagonal_99 ok_Model (by decide) L_MD_53 em11 rfl ?_
      refine P_iconst (v := 0) d_MD_laysDiagonal_102 (by decide) ?_
      obtain ⟨f13, f13e⟩ := hI11.row (r := 480) (by decide) kc_480
      refine P_lald (j := 0) d_MD_laysDiagonal_103 f13e ⟨by decide, by decide⟩ (by decide) ?_
      refine P_aload_n d_MD_laysDiagonal_104 rfl ?_
      refine P_getf (i := 29) d_MD_laysDiagonal_105 ok_Model (by decide) L_MD_53 em11 rfl ?_
      refine P_iconst (v := 1) d_MD_laysDiagonal_108 (by decide) ?_
      refine P_lald (j := 1) d_MD_laysDiagonal_109 f13e ⟨by decide, by decide⟩ (by decide) ?_
      refine P_aload_n d_MD_laysDiagonal_110 rfl ?_
      refine P_getf (i := 29) d_MD_laysDiagonal_111 ok_Model (by decide) L_MD_53 em11 rfl ?_
      refine P_iconst (v := 2) d_MD_laysDiagonal_114 (by decide) ?_
      refine P_lald (j := 2) d_MD_laysDiagonal_115 f13e ⟨by decide, by decide⟩ (by decide) ?_
      refine P_callV (M := M_MD_laysDiagonal) (pc := 116) (as := [.ref 479, .long (f12 0), .long (f12 1), .long (f12 2), .long (f13 0), .long (f13 1), .long (f13 2)]) (b := 467) d_MD_laysDiagonal_116 co_MD_crosses ok_Model em11 L_MD_337 im_MD_crosses se_MD_crosses (s_MD_crosses hI11 (by decide) kc_479 (by omega) (f12 0) (f12 1) (f12 2) (f13 0) (f13 1) (f13 2)) rfl ⟨by decide, by decide⟩ ⟨by decide, by decide⟩ (by exact le_b rfl) ?_ _ rfl
      rintro _ w14 ⟨rfl, hI14, hG14⟩
      have hF14 : Fr SN w w14 := Fr.tr hF11 hG14.1
      obtain ⟨th14, rm14, um14, sm14, em14⟩ := hG14.2 (nI tp) (nI qs) nq (nI un) ln nl sz at_ pl so vl wo fa fp lf lp ⟨_, _, _, _, em11⟩
      show PW _ _ _ _ _ _ (119, [(0, .ref 467), (1, .int (nI q)), (2, .int (nI k)), (3, .long (f12 0)), (5, .long (f12 1)), (7, .long (f12 2))], [], w14)
      refine P_aload_n d_MD_laysDiagonal_119 rfl ?_
      refine P_getf (i := 28) d_MD_laysDiagonal_120 ok_Model (by decide) L_MD_50 em14 rfl ?_
      obtain ⟨f15, f15e⟩ := hI14.row (r := 479) (by decide) kc_479
      refine P_callS (M := M_MD_laysDiagonal) (pc := 123) (as := [.ref 479]) d_MD_laysDiagonal_123 co_MD_reduces L_MD_220 sm_MD_reduces (v_MD_reduces f15e (by decide) (by decide) (by decide)) rfl ⟨by decide, by decide⟩ ⟨by decide, by decide⟩ (by exact le_b rfl) ?_ _ rfl
      rintro _ w16 ⟨rfl, g16, e16⟩
      have s16 := w_s e16
      have hI16 : I w16 := hI14.setL e16 kc_479
      have hF16 : Fr SN w w16 := Fr.set hF14 e16 (SN_t (by omega))
      show PW _ _ _ _ _ _ (126, [(0, .ref 467), (1, .int (nI q)), (2, .int (nI k)), (3, .long (f12 0)), (5, .long (f12 1)), (7, .long (f12 2))], [], w16)
      exact P_vret d_MD_laysDiagonal_126 rfl (le_b rfl) (le_b rfl) ⟨rfl, hI16, FrM.of hF16 ⟨_, _, _, _, em⟩ ⟨_, _, _, _, ((w_n e16 _ (by decide)).trans em14)⟩⟩
  · have ic1 : k = 1 := (nI_eq (by omega) (by omega)).mp c1
    refine P_iconst (v := 1) d_MD_laysDiagonal_11 (by decide) ?_
    refine P_goto 16 d_MD_laysDiagonal_12 (by decide) ?_
    refine P_iload_n d_MD_laysDiagonal_16 rfl ?_
    refine P_if_ne 24 d_MD_laysDiagonal_17 (by decide) (fun c17 => ?_) (fun c17 => ?_)
    · have ic17 : k ≠ 0 := fun q => c17 (congrArg nI q)
      refine P_iconst (v := 2) d_MD_laysDiagonal_24 (by decide) ?_
      refine P_callV (M := M_MD_laysDiagonal) (pc := 25) (as := [.ref 479, .int (nI q), .int 1, .int 2]) (b := 467) d_MD_laysDiagonal_25 co_MD_joins ok_Model em L_MD_400 im_MD_joins se_MD_joins (s_MD_joins hI (by decide) kc_479 (by omega) q (by omega) 1 (by decide) 2 (by decide)) rfl ⟨by decide, by decide⟩ ⟨by decide, by decide⟩ (by exact le_b rfl) ?_ _ rfl
      rintro _ w18 ⟨rfl, hI18, hG18⟩
      have hF18 : Fr SN w w18 := Fr.tr Fr.rf hG18.1
      obtain ⟨th18, rm18, um18, sm18, em18⟩ := hG18.2 (nI tp) (nI qs) nq (nI un) ln nl sz at_ pl so vl wo fa fp lf lp ⟨_, _, _, _, em⟩
      show PW _ _ _ _ _ _ (28, [(0, .ref 467), (1, .int (nI q)), (2, .int (nI k))], [], w18)
      refine P_aload_n d_MD_laysDiagonal_28 rfl ?_
      refine P_aload_n d_MD_laysDiagonal_29 rfl ?_
      refine P_getf (i := 29) d_MD_laysDiagonal_30 ok_Model (by decide) L_MD_53 em18 rfl ?_
      refine P_iload_n d_MD_laysDiagonal_33 rfl ?_
      refine P_iload_n d_MD_laysDiagonal_34 rfl ?_
      refine P_if_ne 42 d_MD_laysDiagonal_35 (by decide) (fun _ => ?_) (fun h => absurd h c17)
      refine P_iload_n d_MD_laysDiagonal_42 rfl ?_
      refine P_iconst (v := 1) d_MD_laysDiagonal_43 (by decide) ?_
      refine P_icmp_ne 51 d_MD_laysDiagonal_44 (by decide) (fun h => absurd c1 h) (fun _ => ?_)
      refine P_iconst (v := 3) d_MD_laysDiagonal_47 (by decide) ?_
      refine P_goto 52 d_MD_laysDiagonal_48 (by decide) ?_
      refine P_iload_n d_MD_laysDiagonal_52 rfl ?_
      refine P_iconst (v := 1) d_MD_laysDiagonal_53 (by decide) ?_
      refine P_icmp_ne 61 d_MD_laysDiagonal_54 (by decide) (fun h => absurd c1 h) (fun _ => ?_)
      refine P_iconst (v := 0) d_MD_laysDiagonal_57 (by decide) ?_
      refine P_goto 62 d_MD_laysDiagonal_58 (by decide) ?_
      refine P_callV (M := M_MD_laysDiagonal) (pc := 62) (as := [.ref 480, .int (nI q), .int 3, .int 0]) (b := 467) d_MD_laysDiagonal_62 co_MD_joins ok_Model em18 L_MD_400 im_MD_joins se_MD_joins (s_MD_joins hI18 (by decide) kc_480 (by omega) q (by omega) 3 (by decide) 0 (by decide)) rfl ⟨by decide, by decide⟩ ⟨by decide, by decide⟩ (by exact le_b rfl) ?_ _ rfl
      rintro _ w19 ⟨rfl, hI19, hG19⟩
      have hF19 : Fr SN w w19 := Fr.tr hF18 hG19.1
      obtain ⟨th19, rm19, um19, sm19, em19⟩ := hG19.2 (nI tp) (nI qs) nq (nI un) ln nl sz at_ pl so vl wo fa fp lf lp ⟨_, _, _, _, em18⟩
      show PW _ _ _ _ _ _ (65, [(0, .ref 467), (1, .int (nI q)), (2, .int (nI k))], [], w19)
      refine P_aload_n d_MD_laysDiagonal_65 rfl ?_
      refine P_getf (i := 28) d_MD_laysDiagonal_66 ok_Model (by decide) L_MD_50 em19 rfl ?_
      refine P_iconst (v := 0) d_MD_laysDiagonal_69 (by decide) ?_
      obtain ⟨f20, f20e⟩ := hI19.row (r := 479) (by decide) kc_479
      refine P_lald (j := 0) d_MD_laysDiagonal_70 f20e ⟨by decide, by decide⟩ (by decide) ?_
      refine P_lstore_n d_MD_laysDiagonal_71 (by decide) rfl ?_
      refine P_aload_n d_MD_laysDiagonal_72 rfl ?_
      refine P_getf (i := 28) d_MD_laysDiagonal_73 ok_Model (by decide) L_MD_50 em19 rfl ?_
      refine P_iconst (v := 1) d_MD_laysDiagonal_76 (by decide) ?_
      refine P_lald (j := 1) d_MD_laysDiagonal_77 f20e ⟨by decide, by decide⟩ (by decide) ?_
      refine P_lstore d_MD_laysDiagonal_78 (by decide) rfl ?_
      refine P_aload_n d_MD_laysDiagonal_80 rfl ?_
      refine P_getf (i := 28) d_MD_laysDiagonal_81 ok_Model (by decide) L_MD_50 em19 rfl ?_
      refine P_iconst (v := 2) d_MD_laysDiagonal_84 (by decide) ?_
      refine P_lald (j := 2) d_MD_laysDiagonal_85 f20e ⟨by decide, by decide⟩ (by decide) ?_
      refine P_lstore d_MD_laysDiagonal_86 (by decide) rfl ?_
      refine P_aload_n d_MD_laysDiagonal_88 rfl ?_
      refine P_aload_n d_MD_laysDiagonal_89 rfl ?_
      refine P_getf (i := 28) d_MD_laysDiagonal_90 ok_Model (by decide) L_MD_50 em19 rfl ?_
      refine P_lload_n d_MD_laysDiagonal_93 rfl ?_
      refine P_lload d_MD_laysDiagonal_94 rfl ?_
      refine P_lload d_MD_laysDiagonal_96 rfl ?_
      refine P_aload_n d_MD_laysDiagonal_98 rfl ?_
      refine P_getf (i := 29) d_MD_laysDiagonal_99 ok_Model (by decide) L_MD_53 em19 rfl ?_
      refine P_iconst (v := 0) d_MD_laysDiagonal_102 (by decide) ?_
      obtain ⟨f21, f21e⟩ := hI19.row (r := 480) (by decide) kc_480
      refine P_lald (j := 0) d_MD_laysDiagonal_103 f21e ⟨by decide, by decide⟩ (by decide) ?_
      refine P_aload_n d_MD_laysDiagonal_104 rfl ?_
      refine P_getf (i := 29) d_MD_laysDiagonal_105 ok_Model (by decide) L_MD_53 em19 rfl ?_
      refine P_iconst (v := 1) d_MD_laysDiagonal_108 (by decide) ?_
      refine P_lald (j := 1) d_MD_laysDiagonal_109 f21e ⟨by decide, by decide⟩ (by decide) ?_
      refine P_aload_n d_MD_laysDiagonal_110 rfl ?_
      refine P_getf (i := 29) d_MD_laysDiagonal_111 ok_Model (by decide) L_MD_53 em19 rfl ?_
      refine P_iconst (v := 2) d_MD_laysDiagonal_114 (by decide) ?_
      refine P_lald (j := 2) d_MD_laysDiagonal_115 f21e ⟨by decide, by decide⟩ (by decide) ?_
      refine P_callV (M := M_MD_laysDiagonal) (pc := 116) (as := [.ref 479, .long (f20 0), .long (f20 1), .long (f20 2), .long (f21 0), .long (f21 1), .long (f21 2)]) (b := 467) d_MD_laysDiagonal_116 co_MD_crosses ok_Model em19 L_MD_337 im_MD_crosses se_MD_crosses (s_MD_crosses hI19 (by decide) kc_479 (by omega) (f20 0) (f20 1) (f20 2) (f21 0) (f21 1) (f21 2)) rfl ⟨by decide, by decide⟩ ⟨by decide, by decide⟩ (by exact le_b rfl) ?_ _ rfl
      rintro _ w22 ⟨rfl, hI22, hG22⟩
      have hF22 : Fr SN w w22 := Fr.tr hF19 hG22.1
      obtain ⟨th22, rm22, um22, sm22, em22⟩ := hG22.2 (nI tp) (nI qs) nq (nI un) ln nl sz at_ pl so vl wo fa fp lf lp ⟨_, _, _, _, em19⟩
      show PW _ _ _ _ _ _ (119, [(0, .ref 467), (1, .int (nI q)), (2, .int (nI k)), (3, .long (f20 0)), (5, .long (f20 1)), (7, .long (f20 2))], [], w22)
      refine P_aload_n d_MD_laysDiagonal_119 rfl ?_
      refine P_getf (i := 28) d_MD_laysDiagonal_120 ok_Model (by decide) L_MD_50 em22 rfl ?_
      obtain ⟨f23, f23e⟩ := hI22.row (r := 479) (by decide) kc_479
      refine P_callS (M := M_MD_laysDiagonal) (pc := 123) (as := [.ref 479]) d_MD_laysDiagonal_123 co_MD_reduces L_MD_220 sm_MD_reduces (v_MD_reduces f23e (by decide) (by decide) (by decide)) rfl ⟨by decide, by decide⟩ ⟨by decide, by decide⟩ (by exact le_b rfl) ?_ _ rfl
      rintro _ w24 ⟨rfl, g24, e24⟩
      have s24 := w_s e24
      have hI24 : I w24 := hI22.setL e24 kc_479
      have hF24 : Fr SN w w24 := Fr.set hF22 e24 (SN_t (by omega))
      show PW _ _ _ _ _ _ (126, [(0, .ref 467), (1, .int (nI q)), (2, .int (nI k)), (3, .long (f20 0)), (5, .long (f20 1)), (7, .long (f20 2))], [], w24)
      exact P_vret d_MD_laysDiagonal_126 rfl (le_b rfl) (le_b rfl) ⟨rfl, hI24, FrM.of hF24 ⟨_, _, _, _, em⟩ ⟨_, _, _, _, ((w_n e24 _ (by decide)).trans em22)⟩⟩
    · have ic17 : k = 0 := (nI_eq (by omega) (by omega)).mp c17
      refine P_iconst (v := 1) d_MD_laysDiagonal_20 (by decide) ?_
      refine P_goto 25 d_MD_laysDiagonal_21 (by decide) ?_
      refine P_callV (M := M_MD_laysDiagonal) (pc := 25) (as := [.ref 479, .int (nI q), .int 1, .int 1]) (b := 467) d_MD_laysDiagonal_25 co_MD_joins ok_Model em L_MD_400 im_MD_joins se_MD_joins (s_MD_joins hI (by decide) kc_479 (by omega) q (by omega) 1 (by decide) 1 (by decide)) rfl ⟨by decide, by decide⟩ ⟨by decide, by decide⟩ (by exact le_b rfl) ?_ _ rfl
      rintro _ w25 ⟨rfl, hI25, hG25⟩
      have hF25 : Fr SN w w25 := Fr.tr Fr.rf hG25.1
      obtain ⟨th25, rm25, um25, sm25, em25⟩ := hG25.2 (nI tp) (nI qs) nq (nI un) ln nl sz at_ pl so vl wo fa fp lf lp ⟨_, _, _, _, em⟩
      show PW _ _ _ _ _ _ (28, [(0, .ref 467), (1, .int (nI q)), (2, .int (nI k))], [], w25)
      refine P_aload_n d_MD_laysDiagonal_28 rfl ?_
      refine P_aload_n d_MD_laysDiagonal_29 rfl ?_
      refine P_getf (i := 29) d_MD_laysDiagonal_30 ok_Model (by decide) L_MD_53 em25 rfl ?_
      refine P_iload_n d_MD_laysDiagonal_33 rfl ?_
      refine P_iload_n d_MD_laysDiagonal_34 rfl ?_
      refine P_if_ne 42 d_MD_laysDiagonal_35 (by decide) (fun h => absurd c17 h) (fun _ => ?_)
      refine P_iconst (v := 2) d_MD_laysDiagonal_38 (by decide) ?_
      refine P_goto 52 d_MD_laysDiagonal_39 (by decide) ?_
      refine P_iload_n d_MD_laysDiagonal_52 rfl ?_
      refine P_iconst (v := 1) d_MD_laysDiagonal_53 (by decide) ?_
      refine P_icmp_ne 61 d_MD_laysDiagonal_54 (by decide) (fun h => absurd c1 h) (fun _ => ?_)
      refine P_iconst (v := 0) d_MD_laysDiagonal_57 (by decide) ?_
      refine P_goto 62 d_MD_laysDiagonal_58 (by decide) ?_
      refine P_callV (M := M_MD_laysDiagonal) (pc := 62) (as := [.ref 480, .int (nI q), .int 2, .int 0]) (b := 467) d_MD_laysDiagonal_62 co_MD_joins ok_Model em25 L_MD_400 im_MD_joins se_MD_joins (s_MD_joins hI25 (by decide) kc_480 (by omega) q (by omega) 2 (by decide) 0 (by decide)) rfl ⟨by decide, by decide⟩ ⟨by decide, by decide⟩ (by exact le_b rfl) ?_ _ rfl
      rintro _ w26 ⟨rfl, hI26, hG26⟩
      have hF26 : Fr SN w w26 := Fr.tr hF25 hG26.1
      obtain ⟨th26, rm26, um26, sm26, em26⟩ := hG26.2 (nI tp) (nI qs) nq (nI un) ln nl sz at_ pl so vl wo fa fp lf lp ⟨_, _, _, _, em25⟩
      show PW _ _ _ _ _ _ (65, [(0, .ref 467), (1, .int (nI q)), (2, .int (nI k))], [], w26)
      refine P_aload_n d_MD_laysDiagonal_65 rfl ?_
      refine P_getf (i := 28) d_MD_laysDiagonal_66 ok_Model (by decide) L_MD_50 em26 rfl ?_
      refine P_iconst (v := 0) d_MD_laysDiagonal_69 (by decide) ?_
      obtain ⟨f27, f27e⟩ := hI26.row (r := 479) (by decide) kc_479
      refine P_lald (j := 0) d_MD_laysDiagonal_70 f27e ⟨by decide, by decide⟩ (by decide) ?_
      refine P_lstore_n d_MD_laysDiagonal_71 (by decide) rfl ?_
      refine P_aload_n d_MD_laysDiagonal_72 rfl ?_
      refine P_getf (i := 28) d_MD_laysDiagonal_73 ok_Model (by decide) L_MD_50 em26 rfl ?_
      refine P_iconst (v := 1) d_MD_laysDiagonal_76 (by decide) ?_
      refine P_lald (j := 1) d_MD_laysDiagonal_77 f27e ⟨by decide, by decide⟩ (by decide) ?_
      refine P_lstore d_MD_laysDiagonal_78 (by decide) rfl ?_
      refine P_aload_n d_MD_laysDiagonal_80 rfl ?_
      refine P_getf (i := 28) d_MD_laysDiagonal_81 ok_Model (by decide) L_MD_50 em26 rfl ?_
      refine P_iconst (v := 2) d_MD_laysDiagonal_84 (by decide) ?_
      refine P_lald (j := 2) d_MD_laysDiagonal_85 f27e ⟨by decide, by decide⟩ (by decide) ?_
      refine P_lstore d_MD_laysDiagonal_86 (by decide) rfl ?_
      refine P_aload_n d_MD_laysDiagonal_88 rfl ?_
      refine P_aload_n d_MD_laysDiagonal_89 rfl ?_
      refine P_getf (i := 28) d_MD_laysDiagonal_90 ok_Model (by decide) L_MD_50 em26 rfl ?_
      refine P_lload_n d_MD_laysDiagonal_93 rfl ?_
      refine P_lload d_MD_laysDiagonal_94 rfl ?_
      refine P_lload d_MD_laysDiagonal_96 rfl ?_
      refine P_aload_n d_MD_laysDiagonal_98 rfl ?_
      refine P_getf (i := 29) d_MD_laysDiagonal_99 ok_Model (by decide) L_MD_53 em26 rfl ?_
      refine P_iconst (v := 0) d_MD_laysDiagonal_102 (by decide) ?_
      obtain ⟨f28, f28e⟩ := hI26.row (r := 480) (by decide) kc_480
      refine P_lald (j := 0) d_MD_laysDiagonal_103 f28e ⟨by decide, by decide⟩ (by decide) ?_
      refine P_aload_n d_MD_laysDiagonal_104 rfl ?_
      refine P_getf (i := 29) d_MD_laysDiagonal_105 ok_Model (by decide) L_MD_53 em26 rfl ?_
      refine P_iconst (v := 1) d_MD_laysDiagonal_108 (by decide) ?_
      refine P_lald (j := 1) d_MD_laysDiagonal_109 f28e ⟨by decide, by decide⟩ (by decide) ?_
      refine P_aload_n d_MD_laysDiagonal_110 rfl ?_
      refine P_getf (i := 29) d_MD_laysDiagonal_111 ok_Model (by decide) L_MD_53 em26 rfl ?_
      refine P_iconst (v := 2) d_MD_laysDiagonal_114 (by decide) ?_
      refine P_lald (j := 2) d_MD_laysDiagonal_115 f28e ⟨by decide, by decide⟩ (by decide) ?_
      refine P_callV (M := M_MD_laysDiagonal) (pc := 116) (as := [.ref 479, .long (f27 0), .long (f27 1), .long (f27 2), .long (f28 0), .long (f28 1), .long (f28 2)]) (b := 467) d_MD_laysDiagonal_116 co_MD_crosses ok_Model em26 L_MD_337 im_MD_crosses se_MD_crosses (s_MD_crosses hI26 (by decide) kc_479 (by omega) (f27 0) (f27 1) (f27 2) (f28 0) (f28 1) (f28 2)) rfl ⟨by decide, by decide⟩ ⟨by decide, by decide⟩ (by exact le_b rfl) ?_ _ rfl
      rintro _ w29 ⟨rfl, hI29, hG29⟩
      have hF29 : Fr SN w w29 := Fr.tr hF26 hG29.1
      obtain ⟨th29, rm29, um29, sm29, em29⟩ := hG29.2 (nI tp) (nI qs) nq (nI un) ln nl sz at_ pl so vl wo fa fp lf lp ⟨_, _, _, _, em26⟩
      show PW _ _ _ _ _ _ (119, [(0, .ref 467), (1, .int (nI q)), (2, .int (nI k)), (3, .long (f27 0)), (5, .long (f27 1)), (7, .long (f27 2))], [], w29)
      refine P_aload_n d_MD_laysDiagonal_119 rfl ?_
      refine P_getf (i := 28) d_MD_laysDiagonal_120 ok_Model (by decide) L_MD_50 em29 rfl ?_
      obtain ⟨f30, f30e⟩ := hI29.row (r := 479) (by decide) kc_479
      refine P_callS (M := M_MD_laysDiagonal) (pc := 123) (as := [.ref 479]) d_MD_laysDiagonal_123 co_MD_reduces L_MD_220 sm_MD_reduces (v_MD_reduces f30e (by decide) (by decide) (by decide)) rfl ⟨by decide, by decide⟩ ⟨by decide, by decide⟩ (by exact le_b rfl) ?_ _ rfl
      rintro _ w31 ⟨rfl, g31, e31⟩
      have s31 := w_s e31
      have hI31 : I w31 := hI29.setL e31 kc_479
      have hF31 : Fr SN w w31 := Fr.set hF29 e31 (SN_t (by omega))
      show PW _ _ _ _ _ _ (126, [(0, .ref 467), (1, .int (nI q)), (2, .int (nI k)), (3, .long (f27 0)), (5, .long (f27 1)), (7, .long (f27 2))], [], w31)
      exact P_vret d_MD_laysDiagonal_126 rfl (le_b rfl) (le_b rfl) ⟨rfl, hI31, FrM.of hF31 ⟨_, _, _, _, em⟩ ⟨_, _, _, _, ((w_n e31 _ (by decide)).trans em29)⟩⟩
theorem s_MD_laysPull {G : pG} {w : pW} (hI : I w) (m : Nat) (hm : m < 16) (x : Int64) (y : Int64) (z : Int64) : PM G M_MD_laysPull 4 0 0 [.ref 467, .int (nI m), .long x, .long y, .long z] w (fun r w' => r = none ∧ I w' ∧ FrM w w') := by
  refine PM_of pn_MD_laysPull (le_b rfl) ?_
  show PW _ _ _ _ _ _ (0, [(0, .ref 467), (1, .int (nI m)), (2, .long x), (4, .long y), (6, .long z)], [], w)
  obtain ⟨tp, qs, un, nq, ln, nl, sz, at_, pl, so, vl, wo, fa, fp, lf, lp, th, rm, um, sm, htp, hqs, hun, em⟩ := hI.md
  obtain ⟨fn, nm, np, en, hnm, e8, hnp, e9⟩ := hI.now
  refine P_aload_n d_MD_laysPull_0 rfl ?_
  refine P_aload_n d_MD_laysPull_1 rfl ?_
  refine P_getf (i := 26) d_MD_laysPull_2 ok_Model (by decide) L_MD_44 em rfl ?_
  refine P_iload_n d_MD_laysPull_5 rfl ?_
  refine P_callV (M := M_MD_laysPull) (pc := 6) (as := [.ref 477, .int (nI m)]) (b := 467) d_MD_laysPull_6 co_MD_takes ok_Model em L_MD_274 im_MD_takes se_MD_takes (s_MD_takes hI (by decide) kc_477 (by omega) m (by omega)) rfl ⟨by decide, by decide⟩ ⟨by decide, by decide⟩ (by exact le_b rfl) ?_ _ rfl
  rintro _ w1 ⟨rfl, hI1, hG1⟩
  have hF1 : Fr SN w w1 := Fr.tr Fr.rf hG1.1
  obtain ⟨th1, rm1, um1, sm1, em1⟩ := hG1.2 (nI tp) (nI qs) nq (nI un) ln nl sz at_ pl so vl wo fa fp lf lp ⟨_, _, _, _, em⟩
  show PW _ _ _ _ _ _ (9, [(0, .ref 467), (1, .int (nI m)), (2, .long x), (4, .long y), (6, .long z)], [], w1)
  refine P_aload_n d_MD_laysPull_9 rfl ?_
  refine P_aload_n d_MD_laysPull_10 rfl ?_
  refine P_getf (i := 26) d_MD_laysPull_11 ok_Model (by decide) L_MD_44 em1 rfl ?_
  refine P_iconst (v := 0) d_MD_laysPull_14 (by decide) ?_
  obtain ⟨f2, f2e⟩ := hI1.row (r := 477) (by decide) kc_477
  refine P_lald (j := 0) d_MD_laysPull_15 f2e ⟨by decide, by decide⟩ (by decide) ?_
  refine P_lload_n d_MD_laysPull_16 rfl ?_
  refine P_lmul d_MD_laysPull_17 ?_
  refine P_aload_n d_MD_laysPull_18 rfl ?_
  refine P_getf (i := 26) d_MD_laysPull_19 ok_Model (by decide) L_MD_44 em1 rfl ?_
  refine P_iconst (v := 3) d_MD_laysPull_22 (by decide) ?_
  refine P_lald (j := 3) d_MD_laysPull_23 f2e ⟨by decide, by decide⟩ (by decide) ?_
  refine P_lload d_MD_laysPull_24 rfl ?_
  refine P_lmul d_MD_laysPull_26 ?_
  refine P_ladd d_MD_laysPull_27 ?_
  refine P_aload_n d_MD_laysPull_28 rfl ?_
  refine P_getf (i := 26) d_MD_laysPull_29 ok_Model (by decide) L_MD_44 em1 rfl ?_
  refine P_bipush (v := 6) d_MD_laysPull_32 (by decide) ?_
  refine P_lald (j := 6) d_MD_laysPull_34 f2e ⟨by decide, by decide⟩ (by decide) ?_
  refine P_lload d_MD_laysPull_35 rfl ?_
  refine P_lmul d_MD_laysPull_37 ?_
  refine P_ladd d_MD_laysPull_38 ?_
  refine P_aload_n d_MD_laysPull_39 rfl ?_
  refine P_getf (i := 26) d_MD_laysPull_40 ok_Model (by decide) L_MD_44 em1 rfl ?_
  refine P_iconst (v := 1) d_MD_laysPull_43 (by decide) ?_
  refine P_lald (j := 1) d_MD_laysPull_44 f2e ⟨by decide, by decide⟩ (by decide) ?_
  refine P_lload_n d_MD_laysPull_45 rfl ?_
  refine P_lmul d_MD_laysPull_46 ?_
  refine P_aload_n d_MD_laysPull_47 rfl ?_
  refine P_getf (i := 26) d_MD_laysPull_48 ok_Model (by decide) L_MD_44 em1 rfl ?_
  refine P_iconst (v := 4) d_MD_laysPull_51 (by decide) ?_
  refine P_lald (j := 4) d_MD_laysPull_52 f2e ⟨by decide, by decide⟩ (by decide) ?_
  refine P_lload d_MD_laysPull_53 rfl ?_
  refine P_lmul d_MD_laysPull_55 ?_
  refine P_ladd d_MD_laysPull_56 ?_
  refine P_aload_n d_MD_laysPull_57 rfl ?_
  refine P_getf (i := 26) d_MD_laysPull_58 ok_Model (by decide) L_MD_44 em1 rfl ?_
  refine P_bipush (v := 7) d_MD_laysPull_61 (by decide) ?_
  refine P_lald (j := 7) d_MD_laysPull_63 f2e ⟨by decide, by decide⟩ (by decide) ?_
  refine P_lload d_MD_laysPull_64 rfl ?_
  refine P_lmul d_MD_laysPull_66 ?_
  refine P_ladd d_MD_laysPull_67 ?_
  refine P_aload_n d_MD_laysPull_68 rfl ?_
  refine P_getf (i := 26) d_MD_laysPull_69 ok_Model (by decide) L_MD_44 em1 rfl ?_
  refine P_iconst (v := 2) d_MD_laysPull_72 (by decide) ?_
  refine P_lald (j := 2) d_MD_laysPull_73 f2e ⟨by decide, by decide⟩ (by decide) ?_
  refine P_lload_n d_MD_laysPull_74 rfl ?_
  refine P_lmul d_MD_laysPull_75 ?_
  refine P_aload_n d_MD_laysPull_76 rfl ?_
  refine P_getf (i := 26) d_MD_laysPull_77 ok_Model (by decide) L_MD_44 em1 rfl ?_
  refine P_iconst (v := 5) d_MD_laysPull_80 (by decide) ?_
  refine P_lald (j := 5) d_MD_laysPull_81 f2e ⟨by decide, by decide⟩ (by decide) ?_
  refine P_lload d_MD_laysPull_82 rfl ?_
  refine P_lmul d_MD_laysPull_84 ?_
  refine P_ladd d_MD_laysPull_85 ?_
  refine P_aload_n d_MD_laysPull_86 rfl ?_
  refine P_getf (i := 26) d_MD_laysPull_87 ok_Model (by decide) L_MD_44 em1 rfl ?_
  refine P_bipush (v := 8) d_MD_laysPull_90 (by decide) ?_
  refine P_lald (j := 8) d_MD_laysPull_92 f2e ⟨by decide, by decide⟩ (by decide) ?_
  refine P_lload d_MD_laysPull_93 rfl ?_
  refine P_lmul d_MD_laysPull_95 ?_
  refine P_ladd d_MD_laysPull_96 ?_
  refine P_callV (M := M_MD_laysPull) (pc := 97) (as := [.long ((((f2 0) * x) + ((f2 3) * y)) + ((f2 6) * z)), .long ((((f2 1) * x) + ((f2 4) * y)) + ((f2 7) * z)), .long ((((f2 2) * x) + ((f2 5) * y)) + ((f2 8) * z))]) (b := 467) d_MD_laysPull_97 co_MD_laysThree ok_Model em1 L_MD_179 im_MD_laysThree se_MD_laysThree (s_MD_laysThree hI1 ((((f2 0) * x) + ((f2 3) * y)) + ((f2 6) * z)) ((((f2 1) * x) + ((f2 4) * y)) + ((f2 7) * z)) ((((f2 2) * x) + ((f2 5) * y)) + ((f2 8) * z))) rfl ⟨by decide, by decide⟩ ⟨by decide, by decide⟩ (by exact le_b rfl) ?_ _ rfl
  rintro _ w3 ⟨rfl, hI3, hG3⟩
  have hF3 : Fr SN w w3 := Fr.tr hF1 hG3.1
  obtain ⟨th3, rm3, um3, sm3, em3⟩ := hG3.2 (nI tp) (nI qs) nq (nI un) ln nl sz at_ pl so vl wo fa fp lf lp ⟨_, _, _, _, em1⟩
  show PW _ _ _ _ _ _ (100, [(0, .ref 467), (1, .int (nI m)), (2, .long x), (4, .long y), (6, .long z)], [], w3)
  exact P_vret d_MD_laysPull_100 rfl (le_b rfl) (le_b rfl) ⟨rfl, hI3, FrM.of hF3 ⟨_, _, _, _, em⟩ ⟨_, _, _, _, em3⟩⟩
theorem s_MD_laysCorner {G : pG} {w : pW} (hI : I w) (m : Nat) (hm : m < 16) (q : Nat) (hq : q < 8) (k : Nat) (hk : k < 4) : PM G M_MD_laysCorner 5 0 0 [.ref 467, .int (nI m), .int (nI q), .int (nI k)] w (fun r w' => r = none ∧ I w' ∧ FrM w w') := by
  refine PM_of pn_MD_laysCorner (le_b rfl) ?_
  show PW _ _ _ _ _ _ (0, [(0, .ref 467), (1, .int (nI m)), (2, .int (nI q)), (3, .int (nI k))], [], w)
  obtain ⟨tp, qs, un, nq, ln, nl, sz, at_, pl, so, vl, wo, fa, fp, lf, lp, th, rm, um, sm, htp, hqs, hun, em⟩ := hI.md
  obtain ⟨fn, nm, np, en, hnm, e8, hnp, e9⟩ := hI.now
  obtain ⟨f469, r469⟩ := hI.ints (r := 469) (by decide) kc_469
  refine P_aload_n d_MD_laysCorner_0 rfl ?_
  refine P_aload_n d_MD_laysCorner_1 rfl ?_
  refine P_getf (i := 26) d_MD_laysCorner_2 ok_Model (by decide) L_MD_44 em rfl ?_
  refine P_iload_n d_MD_laysCorner_5 rfl ?_
  refine P_callV (M := M_MD_laysCorner) (pc := 6) (as := [.ref 477, .int (nI m)]) (b := 467) d_MD_laysCorner_6 co_MD_takes ok_Model em L_MD_274 im_MD_takes se_MD_takes (s_MD_takes hI (by decide) kc_477 (by omega) m (by omega)) rfl ⟨by decide, by decide⟩ ⟨by decide, by decide⟩ (by exact le_b rfl) ?_ _ rfl
  rintro _ w1 ⟨rfl, hI1, hG1⟩
  have hF1 : Fr SN w w1 := Fr.tr Fr.rf hG1.1
  obtain ⟨th1, rm1, um1, sm1, em1⟩ := hG1.2 (nI tp) (nI qs) nq (nI un) ln nl sz at_ pl so vl wo fa fp lf lp ⟨_, _, _, _, em⟩
  show PW _ _ _ _ _ _ (9, [(0, .ref 467), (1, .int (nI m)), (2, .int (nI q)), (3, .int (nI k))], [], w1)
  refine P_aload_n d_MD_laysCorner_9 rfl ?_
  refine P_aload_n d_MD_laysCorner_10 rfl ?_
  refine P_getf (i := 26) d_MD_laysCorner_11 ok_Model (by decide) L_MD_44 em1 rfl ?_
  refine P_aload_n d_MD_laysCorner_14 rfl ?_
  refine P_getf (i := 3) d_MD_laysCorner_15 ok_Model (by decide) L_MD_15 em1 rfl ?_
  refine P_bipush (v := 8) d_MD_laysCorner_18 (by decide) ?_
  refine P_iload_n d_MD_laysCorner_20 rfl ?_
  refine P_imulN (a := 8) (b := q) d_MD_laysCorner_21 ?_
  show PW _ _ _ _ _ _ (22, [(0, .ref 467), (1, .int (nI m)), (2, .int (nI q)), (3, .int (nI k))], [.int (nI (8 * q)), .ref 469, .ref 477, .ref 467], w1)
  refine P_iconst (v := 2) d_MD_laysCorner_22 (by decide) ?_
  refine P_iload_n d_MD_laysCorner_23 rfl ?_
  refine P_imulN (a := 2) (b := k) d_MD_laysCorner_24 ?_
  show PW _ _ _ _ _ _ (25, [(0, .ref 467), (1, .int (nI m)), (2, .int (nI q)), (3, .int (nI k))], [.int (nI (2 * k)), .int (nI (8 * q)), .ref 469, .ref 477, .ref 467], w1)
  refine P_iaddN (a := (8 * q)) (b := (2 * k)) d_MD_laysCorner_25 ?_
  show PW _ _ _ _ _ _ (26, [(0, .ref 467), (1, .int (nI m)), (2, .int (nI q)), (3, .int (nI k))], [.int (nI ((8 * q) + (2 * k))), .ref 469, .ref 477, .ref 467], w1)
  refine P_iald (j := (8 * q) + (2 * k)) d_MD_laysCorner_26 ((hF1.2 _ (SN_f (by omega))).trans r469) (ix_nI (by omega)) (by omega) ?_
  refine P_i2l d_MD_laysCorner_27 ?_
  refine P_aload_n d_MD_laysCorner_28 rfl ?_
  refine P_getf (i := 3) d_MD_laysCorner_29 ok_Model (by decide) L_MD_15 em1 rfl ?_
  refine P_bipush (v := 8) d_MD_laysCorner_32 (by decide) ?_
  refine P_iload_n d_MD_laysCorner_34 rfl ?_
  refine P_imulN (a := 8) (b := q) d_MD_laysCorner_35 ?_
  show PW _ _ _ _ _ _ (36, [(0, .ref 467), (1, .int (nI m)), (2, .int (nI q)), (3, .int (nI k))], [.int (nI (8 * q)), .ref 469, .long ((f469 ((8 * q) + (2 * k))).toInt64), .ref 477, .ref 467], w1)
  refine P_iconst (v := 2) d_MD_laysCorner_36 (by decide) ?_
  refine P_iload_n d_MD_laysCorner_37 rfl ?_
  refine P_imulN (a := 2) (b := k) d_MD_laysCorner_38 ?_
  show PW _ _ _ _ _ _ (39, [(0, .ref 467), (1, .int (nI m)), (2, .int (nI q)), (3, .int (nI k))], [.int (nI (2 * k)), .int (nI (8 * q)), .ref 469, .long ((f469 ((8 * q) + (2 * k))).toInt64), .ref 477, .ref 467], w1)
  refine P_iaddN (a := (8 * q)) (b := (2 * k)) d_MD_laysCorner_39 ?_
  show PW _ _ _ _ _ _ (40, [(0, .ref 467), (1, .int (nI m)), (2, .int (nI q)), (3, .int (nI k))], [.int (nI ((8 * q) + (2 * k))), .ref 469, .long ((f469 ((8 * q) + (2 * k))).toInt64), .ref 477, .ref 467], w1)
  refine P_iconst (v := 1) d_MD_laysCorner_40 (by decide) ?_
  refine P_iaddN (a := ((8 * q) + (2 * k))) (b := 1) d_MD_laysCorner_41 ?_
  show PW _ _ _ _ _ _ (42, [(0, .ref 467), (1, .int (nI m)), (2, .int (nI q)), (3, .int (nI k))], [.int (nI (((8 * q) + (2 * k)) + 1)), .ref 469, .long ((f469 ((8 * q) + (2 * k))).toInt64), .ref 477, .ref 467], w1)
  refine P_iald (j := ((8 * q) + (2 * k)) + 1) d_MD_laysCorner_42 ((hF1.2 _ (SN_f (by omega))).trans r469) (ix_nI (by omega)) (by omega) ?_
  refine P_i2l d_MD_laysCorner_43 ?_
  refine P_lconst (v := 1) d_MD_laysCorner_44 (by decide) ?_
  refine P_callV (M := M_MD_laysCorner) (pc := 45) (as := [.ref 477, .long ((f469 ((8 * q) + (2 * k))).toInt64), .long ((f469 (((8 * q) + (2 * k)) + 1)).toInt64), .long 1]) (b := 467) d_MD_laysCorner_45 co_MD_images ok_Model em1 L_MD_294 im_MD_images se_MD_images (s_MD_images hI1 (by decide) kc_477 ((f469 ((8 * q) + (2 * k))).toInt64) ((f469 (((8 * q) + (2 * k)) + 1)).toInt64) 1) rfl ⟨by decide, by decide⟩ ⟨by decide, by decide⟩ (by exact le_b rfl) ?_ _ rfl
  rintro _ w2 ⟨rfl, hI2, hG2⟩
  have hF2 : Fr SN w w2 := Fr.tr hF1 hG2.1
  obtain ⟨th2, rm2, um2, sm2, em2⟩ := hG2.2 (nI tp) (nI qs) nq (nI un) ln nl sz at_ pl so vl wo fa fp lf lp ⟨_, _, _, _, em1⟩
  show PW _ _ _ _ _ _ (48, [(0, .ref 467), (1, .int (nI m)), (2, .int (nI q)), (3, .int (nI k))], [], w2)
  exact P_vret d_MD_laysCorner_48 rfl (le_b rfl) (le_b rfl) ⟨rfl, hI2, FrM.of hF2 ⟨_, _, _, _, em⟩ ⟨_, _, _, _, em2⟩⟩
theorem s_MD_hitsOf {G : pG} {w : pW} (hI : I w) (m : Nat) (hm : m < 16) (q : Nat) (hq : q < 8) (s : Nat) (hs : s < 8) : PM G M_MD_hitsOf 6 0 0 [.ref 467, .int (nI m), .int (nI q), .int (nI s)] w (fun r w' => (∃ v, r = some (.int v)) ∧ I w' ∧ FrM w w') := by
  refine PM_of pn_MD_hitsOf (le_b rfl) ?_
  show PW _ _ _ _ _ _ (0, [(0, .ref 467), (1, .int (nI m)), (2, .int (nI q)), (3, .int (nI s))], [], w)
  obtain ⟨tp, qs, un, nq, ln, nl, sz, at_, pl, so, vl, wo, fa, fp, lf, lp, th, rm, um, sm, htp, hqs, hun, em⟩ := hI.md
  obtain ⟨fn, nm, np, en, hnm, e8, hnp, e9⟩ := hI.now
  obtain ⟨f469, r469⟩ := hI.ints (r := 469) (by decide) kc_469
  refine P_iconst (v := 0) d_MD_hitsOf_0 (by decide) ?_
  refine P_istore d_MD_hitsOf_1 (by decide) rfl ?_
  refine P_iconst (v := 0) d_MD_hitsOf_3 (by decide) ?_
  refine P_istore d_MD_hitsOf_4 (by decide) rfl ?_
  refine PW_ind (σ := Int32 × pW) (4) (fun jj ss => I (ss.2) ∧ Fr SN w (ss.2) ∧ MS (nI tp) (nI qs) nq (nI un) ln nl sz at_ pl so vl wo fa fp lf lp ((ss.2).2 467)) (fun jj ss => (6, [(0, .ref 467), (1, .int (nI m)), (2, .int (nI q)), (3, .int (nI s)), (4, .int ss.1), (5, .int (nI jj))], [], ss.2)) ?_ ?_ 0 (0, w) (by omega) ⟨hI, Fr.rf, ⟨_, _, _, _, em⟩⟩
  · rintro ⟨j1_4, uj1⟩ ⟨hIj1, hFj1, ⟨thj1, rmj1, umj1, smj1, emj1⟩⟩
    show PW _ _ _ _ _ _ (6, [(0, .ref 467), (1, .int (nI m)), (2, .int (nI q)), (3, .int (nI s)), (4, .int j1_4), (5, .int 4)], [], uj1)
    refine P_iload d_MD_hitsOf_6 rfl ?_
    refine P_iconst (v := 4) d_MD_hitsOf_8 (by decide) ?_
    refine P_icmp_ge 134 d_MD_hitsOf_9 (by decide) (fun _ => ?_) (fun h => absurd (by decide) h)
    refine P_iload d_MD_hitsOf_134 rfl ?_
    exact P_iret d_MD_hitsOf_136 rfl (le_b rfl) (le_b rfl) ⟨⟨_, rfl⟩, hIj1, FrM.of hFj1 ⟨_, _, _, _, em⟩ ⟨_, _, _, _, emj1⟩⟩
  · rintro j1 ⟨j1_4, uj1⟩ hj1 ⟨hIj1, hFj1, ⟨thj1, rmj1, umj1, smj1, emj1⟩⟩ kkj1
    show PW _ _ _ _ _ _ (6, [(0, .ref 467), (1, .int (nI m)), (2, .int (nI q)), (3, .int (nI s)), (4, .int j1_4), (5, .int (nI j1))], [], uj1)
    refine P_iload d_MD_hitsOf_6 rfl ?_
    refine P_iconst (v := 4) d_MD_hitsOf_8 (by decide) ?_
    refine P_icmp_ge 134 d_MD_hitsOf_9 (by decide) (fun h => absurd h (nI_geF (a := j1) (b := 4) (by omega) (by omega))) (fun _ => ?_)
    refine P_aload_n d_MD_hitsOf_12 rfl ?_
    refine P_iload_n d_MD_hitsOf_13 rfl ?_
    refine P_iload_n d_MD_hitsOf_14 rfl ?_
    refine P_iload d_MD_hitsOf_15 rfl ?_
    refine P_callV (M := M_MD_hitsOf) (pc := 17) (as := [.int (nI m), .int (nI q), .int (nI j1)]) (b := 467) d_MD_hitsOf_17 co_MD_laysCorner ok_Model emj1 L_MD_477 im_MD_laysCorner se_MD_laysCorner (s_MD_laysCorner hIj1 m (by omega) q (by omega) j1 (by omega)) rfl ⟨by decide, by decide⟩ ⟨by decide, by decide⟩ (by exact le_b rfl) ?_ _ rfl
    rintro _ w2 ⟨rfl, hI2, hG2⟩
    have hF2 : Fr SN w w2 := Fr.tr hFj1 hG2.1
    obtain ⟨th2, rm2, um2, sm2, em2⟩ := hG2.2 (nI tp) (nI qs) nq (nI un) ln nl sz at_ pl so vl wo fa fp lf lp ⟨_, _, _, _, emj1⟩
    show PW _ _ _ _ _ _ (20, [(0, .ref 467), (1, .int (nI m)), (2, .int (nI q)), (3, .int (nI s)), (4, .int j1_4), (5, .int (nI j1))], [], w2)
    refine P_iconst (v := 0) d_MD_hitsOf_20 (by decide) ?_
    refine P_istore d_MD_hitsOf_21 (by decide) rfl ?_
    refine P_iconst (v := 0) d_MD_hitsOf_23 (by decide) ?_
    refine P_istore d_MD_hitsOf_24 (by decide) rfl ?_
    refine PW_ind (σ := Int32 × pW) (4) (fun jj ss => I (ss.2) ∧ Fr SN w (ss.2) ∧ MS (nI tp) (nI qs) nq (nI un) ln nl sz at_ pl so vl wo fa fp lf lp ((ss.2).2 467)) (fun jj ss => (26, [(0, .ref 467), (1, .int (nI m)), (2, .int (nI q)), (3, .int (nI s)), (4, .int j1_4), (5, .int (nI j1)), (6, .int ss.1), (7, .int (nI jj))], [], ss.2)) ?_ ?_ 0 (0, w2) (by omega) ⟨hI2, hF2, ⟨_, _, _, _, em2⟩⟩
    · rintro ⟨j3_6, uj3⟩ ⟨hIj3, hFj3, ⟨thj3, rmj3, umj3, smj3, emj3⟩⟩
      show PW _ _ _ _ _ _ (26, [(0, .ref 467), (1, .int (nI m)), (2, .int (nI q)), (3, .int (nI s)), (4, .int j1_4), (5, .int (nI j1)), (6, .int j3_6), (7, .int 4)], [], uj3)
      refine P_iload d_MD_hitsOf_26 rfl ?_
      refine P_iconst (v := 4) d_MD_hitsOf_28 (by decide) ?_
      refine P_icmp_ge 113 d_MD_hitsOf_29 (by decide) (fun _ => ?_) (fun h => absurd (by decide) h)
      refine P_iload d_MD_hitsOf_113 rfl ?_
      refine P_iload d_MD_hitsOf_115 rfl ?_
      refine P_if_eq 124 d_MD_hitsOf_117 (by decide) (fun c4 => ?_) (fun c4 => ?_)
      · refine P_iconst (v := 0) d_MD_hitsOf_124 (by decide) ?_
        refine P_iadd d_MD_hitsOf_125 ?_
        refine P_istore d_MD_hitsOf_126 (by decide) rfl ?_
        refine P_iinc (v := nI (j1 + 1)) d_MD_hitsOf_128 (by decide) rfl (nI_add j1 1) rfl ?_
        refine P_goto 6 d_MD_hitsOf_131 (by decide) ?_
        show PW _ _ _ _ _ _ (6, [(0, .ref 467), (1, .int (nI m)), (2, .int (nI q)), (3, .int (nI s)), (4, .int (j1_4 + 0)), (5, .int (nI (j1 + 1))), (6, .int j3_6), (7, .int 4)], [], uj3)
        refine PW.drop (lv' := [(0, .ref 467), (1, .int (nI m)), (2, .int (nI q)), (3, .int (nI s)), (4, .int (j1_4 + 0)), (5, .int (nI (j1 + 1)))]) (by simp) ?_
        exact kkj1 (j1_4 + 0, uj3) ⟨hIj3, hFj3, ⟨_, _, _, _, emj3⟩⟩
      · refine P_iconst (v := 1) d_MD_hitsOf_120 (by decide) ?_
        refine P_goto 125 d_MD_hitsOf_121 (by decide) ?_
        refine P_iadd d_MD_hitsOf_125 ?_
        refine P_istore d_MD_hitsOf_126 (by decide) rfl ?_
        refine P_iinc (v := nI (j1 + 1)) d_MD_hitsOf_128 (by decide) rfl (nI_add j1 1) rfl ?_
        refine P_goto 6 d_MD_hitsOf_131 (by decide) ?_
        show PW _ _ _ _ _ _ (6, [(0, .ref 467), (1, .int (nI m)), (2, .int (nI q)), (3, .int (nI s)), (4, .int (j1_4 + 1)), (5, .int (nI (j1 + 1))), (6, .int j3_6), (7, .int 4)], [], uj3)
        refine PW.drop (lv' := [(0, .ref 467), (1, .int (nI m)), (2, .int (nI q)), (3, .int (nI s)), (4, .int (j1_4 + 1)), (5, .int (nI (j1 + 1)))]) (by simp) ?_
        exact kkj1 (j1_4 + 1, uj3) ⟨hIj3, hFj3, ⟨_, _, _, _, emj3⟩⟩
    · rintro j3 ⟨j3_6, uj3⟩ hj3 ⟨hIj3, hFj3, ⟨thj3, rmj3, umj3, smj3, emj3⟩⟩ kkj3
      show PW _ _ _ _ _ _ (26, [(0, .ref 467), (1, .int (nI m)), (2, .int (nI q)), (3, .int (nI s)), (4, .int j1_4), (5, .int (nI j1)), (6, .int j3_6), (7, .int (nI j3))], [], uj3)
      refine P_iload d_MD_hitsOf_26 rfl ?_
      refine P_iconst (v := 4) d_MD_hitsOf_28 (by decide) ?_
      refine P_icmp_ge 113 d_MD_hitsOf_29 (by decide) (fun h => absurd h (nI_geF (a := j3) (b := 4) (by omega) (by omega))) (fun _ => ?_)
      refine P_iload d_MD_hitsOf_32 rfl ?_
      refine P_if_ne 100 d_MD_hitsOf_34 (by decide) (fun c5 => ?_) (fun c5 => ?_)
      · refine P_iconst (v := 1) d_MD_hitsOf_100 (by decide) ?_
        refine P_goto 105 d_MD_hitsOf_101 (by decide) ?_
        refine P_istore d_MD_hitsOf_105 (by decide) rfl ?_
        refine P_iinc (v := nI (j3 + 1)) d_MD_hitsOf_107 (by decide) rfl (nI_add j3 1) rfl ?_
        refine P_goto 26 d_MD_hitsOf_110 (by decide) ?_
        exact kkj3 (1, uj3) ⟨hIj3, hFj3, ⟨_, _, _, _, emj3⟩⟩
      · refine P_aload_n d_MD_hitsOf_37 rfl ?_
        refine P_getf (i := 28) d_MD_hitsOf_38 ok_Model (by decide) L_MD_50 emj3 rfl ?_
        refine P_iconst (v := 2) d_MD_hitsOf_41 (by decide) ?_
        obtain ⟨f6, f6e⟩ := hIj3.row (r := 479) (by decide) kc_479
        refine P_lald (j := 2) d_MD_hitsOf_42 f6e ⟨by decide, by decide⟩ (by decide) ?_
        refine P_lconst (v := 1) d_MD_hitsOf_43 (by decide) ?_
        refine P_lcmp d_MD_hitsOf_44 ?_
        refine P_if_ne 104 d_MD_hitsOf_45 (by decide) (fun c7 => ?_) (fun c7 => ?_)
        · refine P_iconst (v := 0) d_MD_hitsOf_104 (by decide) ?_
          refine P_istore d_MD_hitsOf_105 (by decide) rfl ?_
          refine P_iinc (v := nI (j3 + 1)) d_MD_hitsOf_107 (by decide) rfl (nI_add j3 1) rfl ?_
          refine P_goto 26 d_MD_hitsOf_110 (by decide) ?_
          exact kkj3 (0, uj3) ⟨hIj3, hFj3, ⟨_, _, _, _, emj3⟩⟩
        · refine P_aload_n d_MD_hitsOf_48 rfl ?_
          refine P_getf (i := 28) d_MD_hitsOf_49 ok_Model (by decide) L_MD_50 emj3 rfl ?_
          refine P_iconst (v := 0) d_MD_hitsOf_52 (by decide) ?_
          refine P_lald (j := 0) d_MD_hitsOf_53 f6e ⟨by decide, by decide⟩ (by decide) ?_
          refine P_aload_n d_MD_hitsOf_54 rfl ?_
          refine P_getf (i := 3) d_MD_hitsOf_55 ok_Model (by decide) L_MD_15 emj3 rfl ?_
          refine P_bipush (v := 8) d_MD_hitsOf_58 (by decide) ?_
          refine P_iload_n d_MD_hitsOf_60 rfl ?_
          refine P_imulN (a := 8) (b := s) d_MD_hitsOf_61 ?_
          show PW _ _ _ _ _ _ (62, [(0, .ref 467), (1, .int (nI m)), (2, .int (nI q)), (3, .int (nI s)), (4, .int j1_4), (5, .int (nI j1)), (6, .int j3_6), (7, .int (nI j3))], [.int (nI (8 * s)), .ref 469, .long (f6 0)], uj3)
          refine P_iconst (v := 2) d_MD_hitsOf_62 (by decide) ?_
          refine P_iload d_MD_hitsOf_63 rfl ?_
          refine P_imulN (a := 2) (b := j3) d_MD_hitsOf_65 ?_
          show PW _ _ _ _ _ _ (66, [(0, .ref 467), (1, .int (nI m)), (2, .int (nI q)), (3, .int (nI s)), (4, .int j1_4), (5, .int (nI j1)), (6, .int j3_6), (7, .int (nI j3))], [.int (nI (2 * j3)), .int (nI (8 * s)), .ref 469, .long (f6 0)], uj3)
          refine P_iaddN (a := (8 * s)) (b := (2 * j3)) d_MD_hitsOf_66 ?_
          show PW _ _ _ _ _ _ (67, [(0, .ref 467), (1, .int (nI m)), (2, .int (nI q)), (3, .int (nI s)), (4, .int j1_4), (5, .int (nI j1)), (6, .int j3_6), (7, .int (nI j3))], [.int (nI ((8 * s) + (2 * j3))), .ref 469, .long (f6 0)], uj3)
          refine P_iald (j := (8 * s) + (2 * j3)) d_MD_hitsOf_67 ((hFj3.2 _ (SN_f (by omega))).trans r469) (ix_nI (by omega)) (by omega) ?_
          refine P_i2l d_MD_hitsOf_68 ?_
          refine P_lcmp d_MD_hitsOf_69 ?_
          refine P_if_ne 104 d_MD_hitsOf_70 (by decide) (fun c8 => ?_) (fun c8 => ?_)
          · refine P_iconst (v := 0) d_MD_hitsOf_104 (by decide) ?_
            refine P_istore d_MD_hitsOf_105 (by decide) rfl ?_
            refine P_iinc (v := nI (j3 + 1)) d_MD_hitsOf_107 (by decide) rfl (nI_add j3 1) rfl ?_
            refine P_goto 26 d_MD_hitsOf_110 (by decide) ?_
            exact kkj3 (0, uj3) ⟨hIj3, hFj3, ⟨_, _, _, _, emj3⟩⟩
          · refine P_aload_n d_MD_hitsOf_73 rfl ?_
            refine P_getf (i := 28) d_MD_hitsOf_74 ok_Model (by decide) L_MD_50 emj3 rfl ?_
            refine P_iconst (v := 1) d_MD_hitsOf_77 (by decide) ?_
            refine P_lald (j := 1) d_MD_hitsOf_78 f6e ⟨by decide, by decide⟩ (by decide) ?_
            refine P_aload_n d_MD_hitsOf_79 rfl ?_
            refine P_getf (i := 3) d_MD_hitsOf_80 ok_Model (by decide) L_MD_15 emj3 rfl ?_
            refine P_bipush (v := 8) d_MD_hitsOf_83 (by decide) ?_
            refine P_iload_n d_MD_hitsOf_85 rfl ?_
            refine P_imulN (a := 8) (b := s) d_MD_hitsOf_86 ?_
            show PW _ _ _ _ _ _ (87, [(0, .ref 467), (1, .int (nI m)), (2, .int (nI q)), (3, .int (nI s)), (4, .int j1_4), (5, .int (nI j1)), (6, .int j3_6), (7, .int (nI j3))], [.int (nI (8 * s)), .ref 469, .long (f6 1)], uj3)
            refine P_iconst (v := 2) d_MD_hitsOf_87 (by decide) ?_
            refine P_iload d_MD_hitsOf_88 rfl ?_
            refine P_imulN (a := 2) (b := j3) d_MD_hitsOf_90 ?_
            show PW _ _ _ _ _ _ (91, [(0, .ref 467), (1, .int (nI m)), (2, .int (nI q)), (3, .int (nI s)), (4, .int j1_4), (5, .int (nI j1)), (6, .int j3_6), (7, .int (nI j3))], [.int (nI (2 * j3)), .int (nI (8 * s)), .ref 469, .long (f6 1)], uj3)
            refine P_iaddN (a := (8 * s)) (b := (2 * j3)) d_MD_hitsOf_91 ?_
            show PW _ _ _ _ _ _ (92, [(0, .ref 467), (1, .int (nI m)), (2, .int (nI q)), (3, .int (nI s)), (4, .int j1_4), (5, .int (nI j1)), (6, .int j3_6), (7, .int (nI j3))], [.int (nI ((8 * s) + (2 * j3))), .ref 469, .long (f6 1)], uj3)
            refine P_iconst (v := 1) d_MD_hitsOf_92 (by decide) ?_
            refine P_iaddN (a := ((8 * s) + (2 * j3))) (b := 1) d_MD_hitsOf_93 ?_
            show PW _ _ _ _ _ _ (94, [(0, .ref 467), (1, .int (nI m)), (2, .int (nI q)), (3, .int (nI s)), (4, .int j1_4), (5, .int (nI j1)), (6, .int j3_6), (7, .int (nI j3))], [.int (nI (((8 * s) + (2 * j3)) + 1)), .ref 469, .long (f6 1)], uj3)
            refine P_iald (j := ((8 * s) + (2 * j3)) + 1) d_MD_hitsOf_94 ((hFj3.2 _ (SN_f (by omega))).trans r469) (ix_nI (by omega)) (by omega) ?_
            refine P_i2l d_MD_hitsOf_95 ?_
            refine P_lcmp d_MD_hitsOf_96 ?_
            refine P_if_ne 104 d_MD_hitsOf_97 (by decide) (fun c9 => ?_) (fun c9 => ?_)
            · refine P_iconst (v := 0) d_MD_hitsOf_104 (by decide) ?_
              refine P_istore d_MD_hitsOf_105 (by decide) rfl ?_
              refine P_iinc (v := nI (j3 + 1)) d_MD_hitsOf_107 (by decide) rfl (nI_add j3 1) rfl ?_
              refine P_goto 26 d_MD_hitsOf_110 (by decide) ?_
              exact kkj3 (0, uj3) ⟨hIj3, hFj3, ⟨_, _, _, _, emj3⟩⟩
            · refine P_iconst (v := 1) d_MD_hitsOf_100 (by decide) ?_
              refine P_goto 105 d_MD_hitsOf_101 (by decide) ?_
              refine P_istore d_MD_hitsOf_105 (by decide) rfl ?_
              refine P_iinc (v := nI (j3 + 1)) d_MD_hitsOf_107 (by decide) rfl (nI_add j3 1) rfl ?_
              refine P_goto 26 d_MD_hitsOf_110 (by decide) ?_
              exact kkj3 (1, uj3) ⟨hIj3, hFj3, ⟨_, _, _, _, emj3⟩⟩
theorem s_MD_shape {G : pG} {w : pW} (hI : I w) (a1 : Int32) : PM G M_MD_shape 3 0 0 [.ref 467, .int a1] w (fun r w' => (∃ v, r = some (.int v)) ∧ I w' ∧ FrM w w') := by
  refine PM_of pn_MD_shape (le_b rfl) ?_
  show PW _ _ _ _ _ _ (0, [(0, .ref 467), (1, .int a1)], [], w)
  obtain ⟨tp, qs, un, nq, ln, nl, sz, at_, pl, so, vl, wo, fa, fp, lf, lp, th, rm, um, sm, htp, hqs, hun, em⟩ := hI.md
  obtain ⟨fn, nm, np, en, hnm, e8, hnp, e9⟩ := hI.now
  obtain ⟨f469, r469⟩ := hI.ints (r := 469) (by decide) kc_469
  refine P_aload_n d_MD_shape_0 rfl ?_
  refine P_iconst (v := 0) d_MD_shape_1 (by decide) ?_
  refine P_putG (i := 0) d_MD_shape_2 ok_Model (by decide) rfl L_MD_74 em (fun _ => rfl) (fun _ => rfl) (fun w1 e1 s1 n1 z1 => ?_)
  have hI1 : I w1 := hI.setM (show w1 = (_, wu _ 467 (mO (nI tp) (nI qs) nq (nI un) ln nl sz at_ pl so vl wo fa fp lf lp 0 rm um sm)) from e1) htp hqs hun
  have hF1 : Fr SN w w1 := Fr.set Fr.rf e1 (SN_t (by omega))
  show PW _ _ _ _ _ _ (5, [(0, .ref 467), (1, .int a1)], [], w1)
  refine P_aload_n d_MD_shape_5 rfl ?_
  refine P_iload_n d_MD_shape_6 rfl ?_
  refine P_callV (M := M_MD_shape) (pc := 7) (as := [.int a1]) (b := 467) d_MD_shape_7 co_MD_isQuad ok_Model s1 L_MD_238 im_MD_isQuad se_MD_isQuad (s_MD_isQuad a1 s1 htp hqs hun) rfl ⟨by decide, by decide⟩ ⟨by decide, by decide⟩ (by exact le_b rfl) ?_ _ rfl
  rintro _ u ⟨rfl, eu⟩
  subst u
  show PW _ _ _ _ _ _ (10, [(0, .ref 467), (1, .int a1)], [.int (bi (inN qs a1))], w1)
  refine P_if_ne 15 d_MD_shape_10 (by decide) (fun c3 => ?_) (fun c3 => ?_)
  · obtain ⟨a1N, ha1N, rfl⟩ := inN_of (bi_1 c3) (by omega)
    refine P_aload_n d_MD_shape_15 rfl ?_
    refine P_iload_n d_MD_shape_16 rfl ?_
    refine P_callV (M := M_MD_shape) (pc := 17) (as := [.int (nI a1N)]) (b := 467) d_MD_shape_17 co_MD_dentOf ok_Model s1 L_MD_258 im_MD_dentOf se_MD_dentOf (s_MD_dentOf a1N (by omega) s1 htp hqs hun ((hF1.2 _ (SN_f (by omega))).trans r469)) rfl ⟨by decide, by decide⟩ ⟨by decide, by decide⟩ (by exact le_b rfl) ?_ _ rfl
    rintro _ u ⟨⟨v4, rfl⟩, eu⟩
    subst u
    show PW _ _ _ _ _ _ (20, [(0, .ref 467), (1, .int (nI a1N))], [.int v4], w1)
    refine P_bipush (v := (-2)) d_MD_shape_20 (by decide) ?_
    refine P_icmp_eq 27 d_MD_shape_22 (by decide) (fun c5 => ?_) (fun c5 => ?_)
    · refine P_aload_n d_MD_shape_27 rfl ?_
      refine P_iload_n d_MD_shape_28 rfl ?_
      refine P_iconst (v := 0) d_MD_shape_29 (by decide) ?_
      refine P_iconst (v := 1) d_MD_shape_30 (by decide) ?_
      refine P_iconst (v := 2) d_MD_shape_31 (by decide) ?_
      refine P_iconst (v := 3) d_MD_shape_32 (by decide) ?_
      refine P_callV (M := M_MD_shape) (pc := 33) (as := [.int (nI a1N), .int 0, .int 1, .int 2, .int 3]) (b := 467) d_MD_shape_33 co_MD_doCross ok_Model s1 L_MD_261 im_MD_doCross se_MD_doCross (s_MD_doCross a1N (by omega) 0 (by decide) 1 (by decide) 2 (by decide) 3 (by decide) s1 htp hqs hun ((hF1.2 _ (SN_f (by omega))).trans r469)) rfl ⟨by decide, by decide⟩ ⟨by decide, by decide⟩ (by exact le_b rfl) ?_ _ rfl
      rintro _ u ⟨⟨v6, rfl⟩, eu⟩
      subst u
      show PW _ _ _ _ _ _ (36, [(0, .ref 467), (1, .int (nI a1N))], [.int (bi v6)], w1)
      refine P_if_ne 51 d_MD_shape_36 (by decide) (fun c7 => ?_) (fun c7 => ?_)
      · refine P_iconst (v := 2) d_MD_shape_51 (by decide) ?_
        refine P_goto 56 d_MD_shape_52 (by decide) ?_
        exact P_iret d_MD_shape_56 rfl (le_b rfl) (le_b rfl) ⟨⟨_, rfl⟩, hI1, FrM.of hF1 ⟨_, _, _, _, em⟩ ⟨_, _, _, _, s1⟩⟩
      · refine P_aload_n d_MD_shape_39 rfl ?_
        refine P_iload_n d_MD_shape_40 rfl ?_
        refine P_iconst (v := 1) d_MD_shape_41 (by decide) ?_
        refine P_iconst (v := 2) d_MD_shape_42 (by decide) ?_
        refine P_iconst (v := 3) d_MD_shape_43 (by decide) ?_
        refine P_iconst (v := 0) d_MD_shape_44 (by decide) ?_
        refine P_callV (M := M_MD_shape) (pc := 45) (as := [.int (nI a1N), .int 1, .int 2, .int 3, .int 0]) (b := 467) d_MD_shape_45 co_MD_doCross ok_Model s1 L_MD_261 im_MD_doCross se_MD_doCross (s_MD_doCross a1N (by omega) 1 (by decide) 2 (by decide) 3 (by decide) 0 (by decide) s1 htp hqs hun ((hF1.2 _ (SN_f (by omega))).trans r469)) rfl ⟨by decide, by decide⟩ ⟨by decide, by decide⟩ (by exact le_b rfl) ?_ _ rfl
        rintro _ u ⟨⟨v8, rfl⟩, eu⟩
        subst u
        show PW _ _ _ _ _ _ (48, [(0, .ref 467), (1, .int (nI a1N))], [.int (bi v8)], w1)
        refine P_if_eq 55 d_MD_shape_48 (by decide) (fun c9 => ?_) (fun c9 => ?_)
        · refine P_iconst (v := 0) d_MD_shape_55 (by decide) ?_
          exact P_iret d_MD_shape_56 rfl (le_b rfl) (le_b rfl) ⟨⟨_, rfl⟩, hI1, FrM.of hF1 ⟨_, _, _, _, em⟩ ⟨_, _, _, _, s1⟩⟩
        · refine P_iconst (v := 2) d_MD_shape_51 (by decide) ?_
          refine P_goto 56 d_MD_shape_52 (by decide) ?_
          exact P_iret d_MD_shape_56 rfl (le_b rfl) (le_b rfl) ⟨⟨_, rfl⟩, hI1, FrM.of hF1 ⟨_, _, _, _, em⟩ ⟨_, _, _, _, s1⟩⟩
    · refine P_iconst (v := 1) d_MD_shape_25 (by decide) ?_
      exact P_iret d_MD_shape_26 rfl (le_b rfl) (le_b rfl) ⟨⟨_, rfl⟩, hI1, FrM.of hF1 ⟨_, _, _, _, em⟩ ⟨_, _, _, _, s1⟩⟩
  · refine P_iconst (v := (-1)) d_MD_shape_13 (by decide) ?_
    exact P_iret d_MD_shape_14 rfl (le_b rfl) (le_b rfl) ⟨⟨_, rfl⟩, hI1, FrM.of hF1 ⟨_, _, _, _, em⟩ ⟨_, _, _, _, s1⟩⟩
theorem s_MD_dent {G : pG} {w : pW} (hI : I w) (a1 : Int32) : PM G M_MD_dent 3 0 0 [.ref 467, .int a1] w (fun r w' => (∃ v, r = some (.int v)) ∧ I w' ∧ FrM w w') := by
  refine PM_of pn_MD_dent (le_b rfl) ?_
  show PW _ _ _ _ _ _ (0, [(0, .ref 467), (1, .int a1)], [], w)
  obtain ⟨tp, qs, un, nq, ln, nl, sz, at_, pl, so, vl, wo, fa, fp, lf, lp, th, rm, um, sm, htp, hqs, hun, em⟩ := hI.md
  obtain ⟨fn, nm, np, en, hnm, e8, hnp, e9⟩ := hI.now
  obtain ⟨f469, r469⟩ := hI.ints (r := 469) (by decide) kc_469
  refine P_aload_n d_MD_dent_0 rfl ?_
  refine P_iconst (v := 0) d_MD_dent_1 (by decide) ?_
  refine P_putG (i := 0) d_MD_dent_2 ok_Model (by decide) rfl L_MD_74 em (fun _ => rfl) (fun _ => rfl) (fun w1 e1 s1 n1 z1 => ?_)
  have hI1 : I w1 := hI.setM (show w1 = (_, wu _ 467 (mO (nI tp) (nI qs) nq (nI un) ln nl sz at_ pl so vl wo fa fp lf lp 0 rm um sm)) from e1) htp hqs hun
  have hF1 : Fr SN w w1 := Fr.set Fr.rf e1 (SN_t (by omega))
  show PW _ _ _ _ _ _ (5, [(0, .ref 467), (1, .int a1)], [], w1)
  refine P_aload_n d_MD_dent_5 rfl ?_
  refine P_iload_n d_MD_dent_6 rfl ?_
  refine P_callV (M := M_MD_dent) (pc := 7) (as := [.int a1]) (b := 467) d_MD_dent_7 co_MD_isQuad ok_Model s1 L_MD_238 im_MD_isQuad se_MD_isQuad (s_MD_isQuad a1 s1 htp hqs hun) rfl ⟨by decide, by decide⟩ ⟨by decide, by decide⟩ (by exact le_b rfl) ?_ _ rfl
  rintro _ u ⟨rfl, eu⟩
  subst u
  show PW _ _ _ _ _ _ (10, [(0, .ref 467), (1, .int a1)], [.int (bi (inN qs a1))], w1)
  refine P_if_eq 21 d_MD_dent_10 (by decide) (fun c3 => ?_) (fun c3 => ?_)
  · refine P_iconst (v := (-1)) d_MD_dent_21 (by decide) ?_
    exact P_iret d_MD_dent_22 rfl (le_b rfl) (le_b rfl) ⟨⟨_, rfl⟩, hI1, FrM.of hF1 ⟨_, _, _, _, em⟩ ⟨_, _, _, _, s1⟩⟩
  · obtain ⟨a1N, ha1N, rfl⟩ := inN_of (bi_1 c3) (by omega)
    refine P_aload_n d_MD_dent_13 rfl ?_
    refine P_iload_n d_MD_dent_14 rfl ?_
    refine P_callV (M := M_MD_dent) (pc := 15) (as := [.int (nI a1N)]) (b := 467) d_MD_dent_15 co_MD_dentOf ok_Model s1 L_MD_258 im_MD_dentOf se_MD_dentOf (s_MD_dentOf a1N (by omega) s1 htp hqs hun ((hF1.2 _ (SN_f (by omega))).trans r469)) rfl ⟨by decide, by decide⟩ ⟨by decide, by decide⟩ (by exact le_b rfl) ?_ _ rfl
    rintro _ u ⟨⟨v4, rfl⟩, eu⟩
    subst u
    show PW _ _ _ _ _ _ (18, [(0, .ref 467), (1, .int (nI a1N))], [.int v4], w1)
    refine P_goto 22 d_MD_dent_18 (by decide) ?_
    exact P_iret d_MD_dent_22 rfl (le_b rfl) (le_b rfl) ⟨⟨_, rfl⟩, hI1, FrM.of hF1 ⟨_, _, _, _, em⟩ ⟨_, _, _, _, s1⟩⟩
theorem s_MD_area {G : pG} {w : pW} (hI : I w) (a1 : Int32) : PM G M_MD_area 1 0 0 [.ref 467, .int a1] w (fun r w' => (∃ v, r = some (.int v)) ∧ I w' ∧ FrM w w') := by
  refine PM_of pn_MD_area (le_b rfl) ?_
  show PW _ _ _ _ _ _ (0, [(0, .ref 467), (1, .int a1)], [], w)
  obtain ⟨tp, qs, un, nq, ln, nl, sz, at_, pl, so, vl, wo, fa, fp, lf, lp, th, rm, um, sm, htp, hqs, hun, em⟩ := hI.md
  obtain ⟨fn, nm, np, en, hnm, e8, hnp, e9⟩ := hI.now
  obtain ⟨f469, r469⟩ := hI.ints (r := 469) (by decide) kc_469
  refine P_aload_n d_MD_area_0 rfl ?_
  refine P_iconst (v := 0) d_MD_area_1 (by decide) ?_
  refine P_putG (i := 0) d_MD_area_2 ok_Model (by decide) rfl L_MD_74 em (fun _ => rfl) (fun _ => rfl) (fun w1 e1 s1 n1 z1 => ?_)
  have hI1 : I w1 := hI.setM (show w1 = (_, wu _ 467 (mO (nI tp) (nI qs) nq (nI un) ln nl sz at_ pl so vl wo fa fp lf lp 0 rm um sm)) from e1) htp hqs hun
  have hF1 : Fr SN w w1 := Fr.set Fr.rf e1 (SN_t (by omega))
  show PW _ _ _ _ _ _ (5, [(0, .ref 467), (1, .int a1)], [], w1)
  refine P_aload_n d_MD_area_5 rfl ?_
  refine P_iload_n d_MD_area_6 rfl ?_
  refine P_callV (M := M_MD_area) (pc := 7) (as := [.int a1]) (b := 467) d_MD_area_7 co_MD_isQuad ok_Model s1 L_MD_238 im_MD_isQuad se_MD_isQuad (s_MD_isQuad a1 s1 htp hqs hun) rfl ⟨by decide, by decide⟩ ⟨by decide, by decide⟩ (by exact le_b rfl) ?_ _ rfl
  rintro _ u ⟨rfl, eu⟩
  subst u
  show PW _ _ _ _ _ _ (10, [(0, .ref 467), (1, .int a1)], [.int (bi (inN qs a1))], w1)
  refine P_if_eq 39 d_MD_area_10 (by decide) (fun c3 => ?_) (fun c3 => ?_)
  · refine P_ldcw (v := (-100000)) d_MD_area_39 L_MD_265 ?_
    exact P_iret d_MD_area_42 rfl (le_b rfl) (le_b rfl) ⟨⟨_, rfl⟩, hI1, FrM.of hF1 ⟨_, _, _, _, em⟩ ⟨_, _, _, _, s1⟩⟩
  · obtain ⟨a1N, ha1N, rfl⟩ := inN_of (bi_1 c3) (by omega)
    refine P_aload_n d_MD_area_13 rfl ?_
    refine P_getf (i := 3) d_MD_area_14 ok_Model (by decide) L_MD_15 s1 rfl ?_
    refine P_iload_n d_MD_area_17 rfl ?_
    refine P_iconst (v := 0) d_MD_area_18 (by decide) ?_
    refine P_iconst (v := 1) d_MD_area_19 (by decide) ?_
    refine P_iconst (v := 2) d_MD_area_20 (by decide) ?_
    refine P_callS (M := M_MD_area) (pc := 21) (as := [.ref 469, .int (nI a1N), .int 0, .int 1, .int 2]) d_MD_area_21 co_MD_areaOf L_MD_161 sm_MD_areaOf (s_MD_areaOf ((hF1.2 _ (SN_f (by omega))).trans r469) (by decide) a1N (by omega) 0 (by decide) 1 (by decide) 2 (by decide) (by omega)) rfl ⟨by decide, by decide⟩ ⟨by decide, by decide⟩ (by exact le_b rfl) ?_ _ rfl
    rintro _ u ⟨⟨v4, rfl⟩, eu⟩
    subst u
    show PW _ _ _ _ _ _ (24, [(0, .ref 467), (1, .int (nI a1N))], [.int v4], w1)
    refine P_aload_n d_MD_area_24 rfl ?_
    refine P_getf (i := 3) d_MD_area_25 ok_Model (by decide) L_MD_15 s1 rfl ?_
    refine P_iload_n d_MD_area_28 rfl ?_
    refine P_iconst (v := 0) d_MD_area_29 (by decide) ?_
    refine P_iconst (v := 2) d_MD_area_30 (by decide) ?_
    refine P_iconst (v := 3) d_MD_area_31 (by decide) ?_
    refine P_callS (M := M_MD_area) (pc := 32) (as := [.ref 469, .int (nI a1N), .int 0, .int 2, .int 3]) d_MD_area_32 co_MD_areaOf L_MD_161 sm_MD_areaOf (s_MD_areaOf ((hF1.2 _ (SN_f (by omega))).trans r469) (by decide) a1N (by omega) 0 (by decide) 2 (by decide) 3 (by decide) (by omega)) rfl ⟨by decide, by decide⟩ ⟨by decide, by decide⟩ (by exact le_b rfl) ?_ _ rfl
    rintro _ u ⟨⟨v5, rfl⟩, eu⟩
    subst u
    show PW _ _ _ _ _ _ (35, [(0, .ref 467), (1, .int (nI a1N))], [.int v5, .int v4], w1)
    refine P_iadd d_MD_area_35 ?_
    refine P_goto 42 d_MD_area_36 (by decide) ?_
    exact P_iret d_MD_area_42 rfl (le_b rfl) (le_b rfl) ⟨⟨_, rfl⟩, hI1, FrM.of hF1 ⟨_, _, _, _, em⟩ ⟨_, _, _, _, s1⟩⟩
theorem s_MD_image {G : pG} {w : pW} (hI : I w) (a1 : Int32) (a2 : Int32) (a3 : Int32) (a4 : Int32) (a5 : Int32) : PM G M_MD_image 5 0 0 [.ref 467, .int a1, .int a2, .int a3, .int a4, .int a5] w (fun r w' => (∃ v, r = some (.long v)) ∧ I w' ∧ FrM w w') := by
  refine PM_of pn_MD_image (le_b rfl) ?_
  show PW _ _ _ _ _ _ (0, [(0, .ref 467), (1, .int a1), (2, .int a2), (3, .int a3), (4, .int a4), (5, .int a5)], [], w)
  obtain ⟨tp, qs, un, nq, ln, nl, sz, at_, pl, so, vl, wo, fa, fp, lf, lp, th, rm, um, sm, htp, hqs, hun, em⟩ := hI.md
  obtain ⟨fn, nm, np, en, hnm, e8, hnp, e9⟩ := hI.now
  refine P_aload_n d_MD_image_0 rfl ?_
  refine P_iconst (v := 0) d_MD_image_1 (by decide) ?_
  refine P_putG (i := 0) d_MD_image_2 ok_Model (by decide) rfl L_MD_74 em (fun _ => rfl) (fun _ => rfl) (fun w1 e1 s1 n1 z1 => ?_)
  have hI1 : I w1 := hI.setM (show w1 = (_, wu _ 467 (mO (nI tp) (nI qs) nq (nI un) ln nl sz at_ pl so vl wo fa fp lf lp 0 rm um sm)) from e1) htp hqs hun
  have hF1 : Fr SN w w1 := Fr.set Fr.rf e1 (SN_t (by omega))
  show PW _ _ _ _ _ _ (5, [(0, .ref 467), (1, .int a1), (2, .int a2), (3, .int a3), (4, .int a4), (5, .int a5)], [], w1)
  refine P_aload_n d_MD_image_5 rfl ?_
  refine P_iload_n d_MD_image_6 rfl ?_
  refine P_callV (M := M_MD_image) (pc := 7) (as := [.int a1]) (b := 467) d_MD_image_7 co_MD_isMap ok_Model s1 L_MD_241 im_MD_isMap se_MD_isMap (s_MD_isMap a1 s1 htp hqs hun ((hF1.2 _ (SN_f (by omega))).trans en) hnm e8 hnp e9) rfl ⟨by decide, by decide⟩ ⟨by decide, by decide⟩ (by exact le_b rfl) ?_ _ rfl
  rintro _ u ⟨rfl, eu⟩
  subst u
  show PW _ _ _ _ _ _ (10, [(0, .ref 467), (1, .int a1), (2, .int a2), (3, .int a3), (4, .int a4), (5, .int a5)], [.int (bi (inN nm a1))], w1)
  refine P_if_eq 31 d_MD_image_10 (by decide) (fun c3 => ?_) (fun c3 => ?_)
  · refine P_ldc2 (v := (-9223372036854775808)) d_MD_image_31 L_MD_307 ?_
    exact P_lret d_MD_image_34 rfl (le_b rfl) (le_b rfl) ⟨⟨_, rfl⟩, hI1, FrM.of hF1 ⟨_, _, _, _, em⟩ ⟨_, _, _, _, s1⟩⟩
  · obtain ⟨a1N, ha1N, rfl⟩ := inN_of (bi_1 c3) (by omega)
    refine P_iload_n d_MD_image_13 rfl ?_
    refine P_iload_n d_MD_image_14 rfl ?_
    refine P_iload d_MD_image_15 rfl ?_
    refine P_callS (M := M_MD_image) (pc := 17) (as := [.int a2, .int a3, .int a4]) d_MD_image_17 co_MD_areEdges L_MD_303 sm_MD_areEdges (s_MD_areEdges a2 a3 a4) rfl ⟨by decide, by decide⟩ ⟨by decide, by decide⟩ (by exact le_b rfl) ?_ _ rfl
    rintro _ u ⟨⟨v4, rfl⟩, eu⟩
    subst u
    show PW _ _ _ _ _ _ (20, [(0, .ref 467), (1, .int (nI a1N)), (2, .int a2), (3, .int a3), (4, .int a4), (5, .int a5)], [.int (bi v4)], w1)
    refine P_if_eq 31 d_MD_image_20 (by decide) (fun c5 => ?_) (fun c5 => ?_)
    · refine P_ldc2 (v := (-9223372036854775808)) d_MD_image_31 L_MD_307 ?_
      exact P_lret d_MD_image_34 rfl (le_b rfl) (le_b rfl) ⟨⟨_, rfl⟩, hI1, FrM.of hF1 ⟨_, _, _, _, em⟩ ⟨_, _, _, _, s1⟩⟩
    · refine P_iload d_MD_image_23 rfl ?_
      refine P_callS (M := M_MD_image) (pc := 25) (as := [.int a5]) d_MD_image_25 co_MD_isThird L_MD_244 sm_MD_isThird (s_MD_isThird a5) rfl ⟨by decide, by decide⟩ ⟨by decide, by decide⟩ (by exact le_b rfl) ?_ _ rfl
      rintro _ u ⟨rfl, eu⟩
      subst u
      show PW _ _ _ _ _ _ (28, [(0, .ref 467), (1, .int (nI a1N)), (2, .int a2), (3, .int a3), (4, .int a4), (5, .int a5)], [.int (bi (inN 3 a5))], w1)
      refine P_if_ne 35 d_MD_image_28 (by decide) (fun c7 => ?_) (fun c7 => ?_)
      · obtain ⟨a5N, ha5N, rfl⟩ := inN_of (bi_1 c7) (by omega)
        refine P_aload_n d_MD_image_35 rfl ?_
        refine P_aload_n d_MD_image_36 rfl ?_
        refine P_getf (i := 26) d_MD_image_37 ok_Model (by decide) L_MD_44 s1 rfl ?_
        refine P_iload_n d_MD_image_40 rfl ?_
        refine P_callV (M := M_MD_image) (pc := 41) (as := [.ref 477, .int (nI a1N)]) (b := 467) d_MD_image_41 co_MD_takes ok_Model s1 L_MD_274 im_MD_takes se_MD_takes (s_MD_takes hI1 (by decide) kc_477 (by omega) a1N (by omega)) rfl ⟨by decide, by decide⟩ ⟨by decide, by decide⟩ (by exact le_b rfl) ?_ _ rfl
        rintro _ w8 ⟨rfl, hI8, hG8⟩
        have hF8 : Fr SN w w8 := Fr.tr hF1 hG8.1
        obtain ⟨th8, rm8, um8, sm8, em8⟩ := hG8.2 (nI tp) (nI qs) nq (nI un) ln nl sz at_ pl so vl wo fa fp lf lp ⟨_, _, _, _, s1⟩
        show PW _ _ _ _ _ _ (44, [(0, .ref 467), (1, .int (nI a1N)), (2, .int a2), (3, .int a3), (4, .int a4), (5, .int (nI a5N))], [], w8)
        refine P_aload_n d_MD_image_44 rfl ?_
        refine P_aload_n d_MD_image_45 rfl ?_
        refine P_getf (i := 26) d_MD_image_46 ok_Model (by decide) L_MD_44 em8 rfl ?_
        refine P_iload_n d_MD_image_49 rfl ?_
        refine P_i2l d_MD_image_50 ?_
        refine P_iload_n d_MD_image_51 rfl ?_
        refine P_i2l d_MD_image_52 ?_
        refine P_iload d_MD_image_53 rfl ?_
        refine P_i2l d_MD_image_55 ?_
        refine P_callV (M := M_MD_image) (pc := 56) (as := [.ref 477, .long a2.toInt64, .long a3.toInt64, .long a4.toInt64]) (b := 467) d_MD_image_56 co_MD_images ok_Model em8 L_MD_294 im_MD_images se_MD_images (s_MD_images hI8 (by decide) kc_477 a2.toInt64 a3.toInt64 a4.toInt64) rfl ⟨by decide, by decide⟩ ⟨by decide, by decide⟩ (by exact le_b rfl) ?_ _ rfl
        rintro _ w9 ⟨rfl, hI9, hG9⟩
        have hF9 : Fr SN w w9 := Fr.tr hF8 hG9.1
        obtain ⟨th9, rm9, um9, sm9, em9⟩ := hG9.2 (nI tp) (nI qs) nq (nI un) ln nl sz at_ pl so vl wo fa fp lf lp ⟨_, _, _, _, em8⟩
        show PW _ _ _ _ _ _ (59, [(0, .ref 467), (1, .int (nI a1N)), (2, .int a2), (3, .int a3), (4, .int a4), (5, .int (nI a5N))], [], w9)
        refine P_aload_n d_MD_image_59 rfl ?_
        refine P_getf (i := 28) d_MD_image_60 ok_Model (by decide) L_MD_50 em9 rfl ?_
        refine P_iload d_MD_image_63 rfl ?_
        obtain ⟨f10, f10e⟩ := hI9.row (r := 479) (by decide) kc_479
        refine P_lald (j := a5N) d_MD_image_65 f10e (ix_nI (by omega)) (by omega) ?_
        exact P_lret d_MD_image_66 rfl (le_b rfl) (le_b rfl) ⟨⟨_, rfl⟩, hI9, FrM.of hF9 ⟨_, _, _, _, em⟩ ⟨_, _, _, _, em9⟩⟩
      · refine P_ldc2 (v := (-9223372036854775808)) d_MD_image_31 L_MD_307 ?_
        exact P_lret d_MD_image_34 rfl (le_b rfl) (le_b rfl) ⟨⟨_, rfl⟩, hI1, FrM.of hF1 ⟨_, _, _, _, em⟩ ⟨_, _, _, _, s1⟩⟩
theorem s_MD_before {G : pG} {w : pW} (hI : I w) (a1 : Int32) (a2 : Int32) (a3 : Int32) (a4 : Int32) (a5 : Int32) : PM G M_MD_before 5 0 0 [.ref 467, .int a1, .int a2, .int a3, .int a4, .int a5] w (fun r w' => (∃ v, r = some (.long v)) ∧ I w' ∧ FrM w w') := by
  refine PM_of pn_MD_before (le_b rfl) ?_
  show PW _ _ _ _ _ _ (0, [(0, .ref 467), (1, .int a1), (2, .int a2), (3, .int a3), (4, .int a4), (5, .int a5)], [], w)
  obtain ⟨tp, qs, un, nq, ln, nl, sz, at_, pl, so, vl, wo, fa, fp, lf, lp, th, rm, um, sm, htp, hqs, hun, em⟩ := hI.md
  obtain ⟨fn, nm, np, en, hnm, e8, hnp, e9⟩ := hI.now
  refine P_aload_n d_MD_before_0 rfl ?_
  refine P_iconst (v := 0) d_MD_before_1 (by decide) ?_
  refine P_putG (i := 0) d_MD_before_2 ok_Model (by decide) rfl L_MD_74 em (fun _ => rfl) (fun _ => rfl) (fun w1 e1 s1 n1 z1 => ?_)
  have hI1 : I w1 := hI.setM (show w1 = (_, wu _ 467 (mO (nI tp) (nI qs) nq (nI un) ln nl sz at_ pl so vl wo fa fp lf lp 0 rm um sm)) from e1) htp hqs hun
  have hF1 : Fr SN w w1 := Fr.set Fr.rf e1 (SN_t (by omega))
  show PW _ _ _ _ _ _ (5, [(0, .ref 467), (1, .int a1), (2, .int a2), (3, .int a3), (4, .int a4), (5, .int a5)], [], w1)
  refine P_aload_n d_MD_before_5 rfl ?_
  refine P_iload_n d_MD_before_6 rfl ?_
  refine P_callV (M := M_MD_before) (pc := 7) (as := [.int a1]) (b := 467) d_MD_before_7 co_MD_isMap ok_Model s1 L_MD_241 im_MD_isMap se_MD_isMap (s_MD_isMap a1 s1 htp hqs hun ((hF1.2 _ (SN_f (by omega))).trans en) hnm e8 hnp e9) rfl ⟨by decide, by decide⟩ ⟨by decide, by decide⟩ (by exact le_b rfl) ?_ _ rfl
  rintro _ u ⟨rfl, eu⟩
  subst u
  show PW _ _ _ _ _ _ (10, [(0, .ref 467), (1, .int a1), (2, .int a2), (3, .int a3), (4, .int a4), (5, .int a5)], [.int (bi (inN nm a1))], w1)
  refine P_if_eq 31 d_MD_before_10 (by decide) (fun c3 => ?_) (fun c3 => ?_)
  · refine P_ldc2 (v := (-9223372036854775808)) d_MD_before_31 L_MD_307 ?_
    exact P_lret d_MD_before_34 rfl (le_b rfl) (le_b rfl) ⟨⟨_, rfl⟩, hI1, FrM.of hF1 ⟨_, _, _, _, em⟩ ⟨_, _, _, _, s1⟩⟩
  · obtain ⟨a1N, ha1N, rfl⟩ := inN_of (bi_1 c3) (by omega)
    refine P_iload_n d_MD_before_13 rfl ?_
    refine P_iload_n d_MD_before_14 rfl ?_
    refine P_iload d_MD_before_15 rfl ?_
    refine P_callS (M := M_MD_before) (pc := 17) (as := [.int a2, .int a3, .int a4]) d_MD_before_17 co_MD_areEdges L_MD_303 sm_MD_areEdges (s_MD_areEdges a2 a3 a4) rfl ⟨by decide, by decide⟩ ⟨by decide, by decide⟩ (by exact le_b rfl) ?_ _ rfl
    rintro _ u ⟨⟨v4, rfl⟩, eu⟩
    subst u
    show PW _ _ _ _ _ _ (20, [(0, .ref 467), (1, .int (nI a1N)), (2, .int a2), (3, .int a3), (4, .int a4), (5, .int a5)], [.int (bi v4)], w1)
    refine P_if_eq 31 d_MD_before_20 (by decide) (fun c5 => ?_) (fun c5 => ?_)
    · refine P_ldc2 (v := (-9223372036854775808)) d_MD_before_31 L_MD_307 ?_
      exact P_lret d_MD_before_34 rfl (le_b rfl) (le_b rfl) ⟨⟨_, rfl⟩, hI1, FrM.of hF1 ⟨_, _, _, _, em⟩ ⟨_, _, _, _, s1⟩⟩
    · refine P_iload d_MD_before_23 rfl ?_
      refine P_callS (M := M_MD_before) (pc := 25) (as := [.int a5]) d_MD_before_25 co_MD_isThird L_MD_244 sm_MD_isThird (s_MD_isThird a5) rfl ⟨by decide, by decide⟩ ⟨by decide, by decide⟩ (by exact le_b rfl) ?_ _ rfl
      rintro _ u ⟨rfl, eu⟩
      subst u
      show PW _ _ _ _ _ _ (28, [(0, .ref 467), (1, .int (nI a1N)), (2, .int a2), (3, .int a3), (4, .int a4), (5, .int a5)], [.int (bi (inN 3 a5))], w1)
      refine P_if_ne 35 d_MD_before_28 (by decide) (fun c7 => ?_) (fun c7 => ?_)
      · obtain ⟨a5N, ha5N, rfl⟩ := inN_of (bi_1 c7) (by omega)
        refine P_aload_n d_MD_before_35 rfl ?_
        refine P_iload_n d_MD_before_36 rfl ?_
        refine P_callV (M := M_MD_before) (pc := 37) (as := [.int (nI a1N)]) (b := 467) d_MD_before_37 co_MD_laysInverse ok_Model s1 L_MD_280 im_MD_laysInverse se_MD_laysInverse (s_MD_laysInverse hI1 a1N (by omega)) rfl ⟨by decide, by decide⟩ ⟨by decide, by decide⟩ (by exact le_b rfl) ?_ _ rfl
        rintro _ w8 ⟨rfl, hI8, hG8⟩
        have hF8 : Fr SN w w8 := Fr.tr hF1 hG8.1
        obtain ⟨th8, rm8, um8, sm8, em8⟩ := hG8.2 (nI tp) (nI qs) nq (nI un) ln nl sz at_ pl so vl wo fa fp lf lp ⟨_, _, _, _, s1⟩
        show PW _ _ _ _ _ _ (40, [(0, .ref 467), (1, .int (nI a1N)), (2, .int a2), (3, .int a3), (4, .int a4), (5, .int (nI a5N))], [], w8)
        refine P_aload_n d_MD_before_40 rfl ?_
        obtain ⟨f9, f9e⟩ := hI8.row (r := 476) (by decide) kc_476
        refine P_callV (M := M_MD_before) (pc := 41) (as := []) (b := 467) d_MD_before_41 co_MD_isLarge ok_Model em8 L_MD_172 im_MD_isLarge se_MD_isLarge (s_MD_isLarge em8 htp hqs hun f9e) rfl ⟨by decide, by decide⟩ ⟨by decide, by decide⟩ (by exact le_b rfl) ?_ _ rfl
        rintro _ u ⟨⟨v10, rfl⟩, eu⟩
        subst u
        show PW _ _ _ _ _ _ (44, [(0, .ref 467), (1, .int (nI a1N)), (2, .int a2), (3, .int a3), (4, .int a4), (5, .int (nI a5N))], [.int (bi v10)], w8)
        refine P_if_eq 51 d_MD_before_44 (by decide) (fun c11 => ?_) (fun c11 => ?_)
        · refine P_aload_n d_MD_before_51 rfl ?_
          refine P_aload_n d_MD_before_52 rfl ?_
          refine P_getf (i := 25) d_MD_before_53 ok_Model (by decide) L_MD_41 em8 rfl ?_
          refine P_iload_n d_MD_before_56 rfl ?_
          refine P_i2l d_MD_before_57 ?_
          refine P_iload_n d_MD_before_58 rfl ?_
          refine P_i2l d_MD_before_59 ?_
          refine P_iload d_MD_before_60 rfl ?_
          refine P_i2l d_MD_before_62 ?_
          refine P_callV (M := M_MD_before) (pc := 63) (as := [.ref 476, .long a2.toInt64, .long a3.toInt64, .long a4.toInt64]) (b := 467) d_MD_before_63 co_MD_images ok_Model em8 L_MD_294 im_MD_images se_MD_images (s_MD_images hI8 (by decide) kc_476 a2.toInt64 a3.toInt64 a4.toInt64) rfl ⟨by decide, by decide⟩ ⟨by decide, by decide⟩ (by exact le_b rfl) ?_ _ rfl
          rintro _ w12 ⟨rfl, hI12, hG12⟩
          have hF12 : Fr SN w w12 := Fr.tr hF8 hG12.1
          obtain ⟨th12, rm12, um12, sm12, em12⟩ := hG12.2 (nI tp) (nI qs) nq (nI un) ln nl sz at_ pl so vl wo fa fp lf lp ⟨_, _, _, _, em8⟩
          show PW _ _ _ _ _ _ (66, [(0, .ref 467), (1, .int (nI a1N)), (2, .int a2), (3, .int a3), (4, .int a4), (5, .int (nI a5N))], [], w12)
          refine P_aload_n d_MD_before_66 rfl ?_
          refine P_getf (i := 28) d_MD_before_67 ok_Model (by decide) L_MD_50 em12 rfl ?_
          refine P_iload d_MD_before_70 rfl ?_
          obtain ⟨f13, f13e⟩ := hI12.row (r := 479) (by decide) kc_479
          refine P_lald (j := a5N) d_MD_before_72 f13e (ix_nI (by omega)) (by omega) ?_
          exact P_lret d_MD_before_73 rfl (le_b rfl) (le_b rfl) ⟨⟨_, rfl⟩, hI12, FrM.of hF12 ⟨_, _, _, _, em⟩ ⟨_, _, _, _, em12⟩⟩
        · refine P_ldc2 (v := (-100000000000)) d_MD_before_47 L_MD_309 ?_
          exact P_lret d_MD_before_50 rfl (le_b rfl) (le_b rfl) ⟨⟨_, rfl⟩, hI8, FrM.of hF8 ⟨_, _, _, _, em⟩ ⟨_, _, _, _, em8⟩⟩
      · refine P_ldc2 (v := (-9223372036854775808)) d_MD_before_31 L_MD_307 ?_
        exact P_lret d_MD_before_34 rfl (le_b rfl) (le_b rfl) ⟨⟨_, rfl⟩, hI1, FrM.of hF1 ⟨_, _, _, _, em⟩ ⟨_, _, _, _, s1⟩⟩
theorem s_MD_line {G : pG} {w : pW} (hI : I w) (a1 : Int32) (a2 : Int32) (a3 : Int32) (a4 : Int32) (a5 : Int32) : PM G M_MD_line 4 0 0 [.ref 467, .int a1, .int a2, .int a3, .int a4, .int a5] w (fun r w' => (∃ v, r = some (.long v)) ∧ I w' ∧ FrM w w') := by
  refine PM_of pn_MD_line (le_b rfl) ?_
  show PW _ _ _ _ _ _ (0, [(0, .ref 467), (1, .int a1), (2, .int a2), (3, .int a3), (4, .int a4), (5, .int a5)], [], w)
  obtain ⟨tp, qs, un, nq, ln, nl, sz, at_, pl, so, vl, wo, fa, fp, lf, lp, th, rm, um, sm, htp, hqs, hun, em⟩ := hI.md
  obtain ⟨fn, nm, np, en, hnm, e8, hnp, e9⟩ := hI.now
  refine P_aload_n d_MD_line_0 rfl ?_
  refine P_iconst (v := 0) d_MD_line_1 (by decide) ?_
  refine P_putG (i := 0) d_MD_line_2 ok_Model (by decide) rfl L_MD_74 em (fun _ => rfl) (fun _ => rfl) (fun w1 e1 s1 n1 z1 => ?_)
  have hI1 : I w1 := hI.setM (show w1 = (_, wu _ 467 (mO (nI tp) (nI qs) nq (nI un) ln nl sz at_ pl so vl wo fa fp lf lp 0 rm um sm)) from e1) htp hqs hun
  have hF1 : Fr SN w w1 := Fr.set Fr.rf e1 (SN_t (by omega))
  show PW _ _ _ _ _ _ (5, [(0, .ref 467), (1, .int a1), (2, .int a2), (3, .int a3), (4, .int a4), (5, .int a5)], [], w1)
  refine P_aload_n d_MD_line_5 rfl ?_
  refine P_iload_n d_MD_line_6 rfl ?_
  refine P_callV (M := M_MD_line) (pc := 7) (as := [.int a1]) (b := 467) d_MD_line_7 co_MD_isMap ok_Model s1 L_MD_241 im_MD_isMap se_MD_isMap (s_MD_isMap a1 s1 htp hqs hun ((hF1.2 _ (SN_f (by omega))).trans en) hnm e8 hnp e9) rfl ⟨by decide, by decide⟩ ⟨by decide, by decide⟩ (by exact le_b rfl) ?_ _ rfl
  rintro _ u ⟨rfl, eu⟩
  subst u
  show PW _ _ _ _ _ _ (10, [(0, .ref 467), (1, .int a1), (2, .int a2), (3, .int a3), (4, .int a4), (5, .int a5)], [.int (bi (inN nm a1))], w1)
  refine P_if_eq 31 d_MD_line_10 (by decide) (fun c3 => ?_) (fun c3 => ?_)
  · refine P_ldc2 (v := (-9223372036854775808)) d_MD_line_31 L_MD_307 ?_
    exact P_lret d_MD_line_34 rfl (le_b rfl) (le_b rfl) ⟨⟨_, rfl⟩, hI1, FrM.of hF1 ⟨_, _, _, _, em⟩ ⟨_, _, _, _, s1⟩⟩
  · obtain ⟨a1N, ha1N, rfl⟩ := inN_of (bi_1 c3) (by omega)
    refine P_iload_n d_MD_line_13 rfl ?_
    refine P_iload_n d_MD_line_14 rfl ?_
    refine P_iload d_MD_line_15 rfl ?_
    refine P_callS (M := M_MD_line) (pc := 17) (as := [.int a2, .int a3, .int a4]) d_MD_line_17 co_MD_areEdges L_MD_303 sm_MD_areEdges (s_MD_areEdges a2 a3 a4) rfl ⟨by decide, by decide⟩ ⟨by decide, by decide⟩ (by exact le_b rfl) ?_ _ rfl
    rintro _ u ⟨⟨v4, rfl⟩, eu⟩
    subst u
    show PW _ _ _ _ _ _ (20, [(0, .ref 467), (1, .int (nI a1N)), (2, .int a2), (3, .int a3), (4, .int a4), (5, .int a5)], [.int (bi v4)], w1)
    refine P_if_eq 31 d_MD_line_20 (by decide) (fun c5 => ?_) (fun c5 => ?_)
    · refine P_ldc2 (v := (-9223372036854775808)) d_MD_line_31 L_MD_307 ?_
      exact P_lret d_MD_line_34 rfl (le_b rfl) (le_b rfl) ⟨⟨_, rfl⟩, hI1, FrM.of hF1 ⟨_, _, _, _, em⟩ ⟨_, _, _, _, s1⟩⟩
    · refine P_iload d_MD_line_23 rfl ?_
      refine P_callS (M := M_MD_line) (pc := 25) (as := [.int a5]) d_MD_line_25 co_MD_isThird L_MD_244 sm_MD_isThird (s_MD_isThird a5) rfl ⟨by decide, by decide⟩ ⟨by decide, by decide⟩ (by exact le_b rfl) ?_ _ rfl
      rintro _ u ⟨rfl, eu⟩
      subst u
      show PW _ _ _ _ _ _ (28, [(0, .ref 467), (1, .int (nI a1N)), (2, .int a2), (3, .int a3), (4, .int a4), (5, .int a5)], [.int (bi (inN 3 a5))], w1)
      refine P_if_ne 35 d_MD_line_28 (by decide) (fun c7 => ?_) (fun c7 => ?_)
      · obtain ⟨a5N, ha5N, rfl⟩ := inN_of (bi_1 c7) (by omega)
        refine P_aload_n d_MD_line_35 rfl ?_
        refine P_iload_n d_MD_line_36 rfl ?_
        refine P_callV (M := M_MD_line) (pc := 37) (as := [.int (nI a1N)]) (b := 467) d_MD_line_37 co_MD_laysInverse ok_Model s1 L_MD_280 im_MD_laysInverse se_MD_laysInverse (s_MD_laysInverse hI1 a1N (by omega)) rfl ⟨by decide, by decide⟩ ⟨by decide, by decide⟩ (by exact le_b rfl) ?_ _ rfl
        rintro _ w8 ⟨rfl, hI8, hG8⟩
        have hF8 : Fr SN w w8 := Fr.tr hF1 hG8.1
        obtain ⟨th8, rm8, um8, sm8, em8⟩ := hG8.2 (nI tp) (nI qs) nq (nI un) ln nl sz at_ pl so vl wo fa fp lf lp ⟨_, _, _, _, s1⟩
        show PW _ _ _ _ _ _ (40, [(0, .ref 467), (1, .int (nI a1N)), (2, .int a2), (3, .int a3), (4, .int a4), (5, .int (nI a5N))], [], w8)
        refine P_aload_n d_MD_line_40 rfl ?_
        obtain ⟨f9, f9e⟩ := hI8.row (r := 476) (by decide) kc_476
        refine P_callV (M := M_MD_line) (pc := 41) (as := []) (b := 467) d_MD_line_41 co_MD_isLarge ok_Model em8 L_MD_172 im_MD_isLarge se_MD_isLarge (s_MD_isLarge em8 htp hqs hun f9e) rfl ⟨by decide, by decide⟩ ⟨by decide, by decide⟩ (by exact le_b rfl) ?_ _ rfl
        rintro _ u ⟨⟨v10, rfl⟩, eu⟩
        subst u
        show PW _ _ _ _ _ _ (44, [(0, .ref 467), (1, .int (nI a1N)), (2, .int a2), (3, .int a3), (4, .int a4), (5, .int (nI a5N))], [.int (bi v10)], w8)
        refine P_if_eq 51 d_MD_line_44 (by decide) (fun c11 => ?_) (fun c11 => ?_)
        · refine P_aload_n d_MD_line_51 rfl ?_
          refine P_aload_n d_MD_line_52 rfl ?_
          refine P_getf (i := 25) d_MD_line_53 ok_Model (by decide) L_MD_41 em8 rfl ?_
          refine P_iconst (v := 0) d_MD_line_56 (by decide) ?_
          refine P_lald (j := 0) d_MD_line_57 f9e ⟨by decide, by decide⟩ (by decide) ?_
          refine P_iload_n d_MD_line_58 rfl ?_
          refine P_i2l d_MD_line_59 ?_
          refine P_lmul d_MD_line_60 ?_
          refine P_aload_n d_MD_line_61 rfl ?_
          refine P_getf (i := 25) d_MD_line_62 ok_Model (by decide) L_MD_41 em8 rfl ?_
          refine P_iconst (v := 3) d_MD_line_65 (by decide) ?_
          refine P_lald (j := 3) d_MD_line_66 f9e ⟨by decide, by decide⟩ (by decide) ?_
          refine P_iload_n d_MD_line_67 rfl ?_
          refine P_i2l d_MD_line_68 ?_
          refine P_lmul d_MD_line_69 ?_
          refine P_ladd d_MD_line_70 ?_
          refine P_aload_n d_MD_line_71 rfl ?_
          refine P_getf (i := 25) d_MD_line_72 ok_Model (by decide) L_MD_41 em8 rfl ?_
          refine P_bipush (v := 6) d_MD_line_75 (by decide) ?_
          refine P_lald (j := 6) d_MD_line_77 f9e ⟨by decide, by decide⟩ (by decide) ?_
          refine P_iload d_MD_line_78 rfl ?_
          refine P_i2l d_MD_line_80 ?_
          refine P_lmul d_MD_line_81 ?_
          refine P_ladd d_MD_line_82 ?_
          generalize (((f9 0) * a2.toInt64) + ((f9 3) * a3.toInt64)) + ((f9 6) * a4.toInt64) = zz12
          show PW _ _ _ _ _ _ (83, [(0, .ref 467), (1, .int (nI a1N)), (2, .int a2), (3, .int a3), (4, .int a4), (5, .int (nI a5N))], [.long zz12, .ref 467], w8)
          refine P_aload_n d_MD_line_83 rfl ?_
          refine P_getf (i := 25) d_MD_line_84 ok_Model (by decide) L_MD_41 em8 rfl ?_
          refine P_iconst (v := 1) d_MD_line_87 (by decide) ?_
          refine P_lald (j := 1) d_MD_line_88 f9e ⟨by decide, by decide⟩ (by decide) ?_
          refine P_iload_n d_MD_line_89 rfl ?_
          refine P_i2l d_MD_line_90 ?_
          refine P_lmul d_MD_line_91 ?_
          refine P_aload_n d_MD_line_92 rfl ?_
          refine P_getf (i := 25) d_MD_line_93 ok_Model (by decide) L_MD_41 em8 rfl ?_
          refine P_iconst (v := 4) d_MD_line_96 (by decide) ?_
          refine P_lald (j := 4) d_MD_line_97 f9e ⟨by decide, by decide⟩ (by decide) ?_
          refine P_iload_n d_MD_line_98 rfl ?_
          refine P_i2l d_MD_line_99 ?_
          refine P_lmul d_MD_line_100 ?_
          refine P_ladd d_MD_line_101 ?_
          refine P_aload_n d_MD_line_102 rfl ?_
          refine P_getf (i := 25) d_MD_line_103 ok_Model (by decide) L_MD_41 em8 rfl ?_
          refine P_bipush (v := 7) d_MD_line_106 (by decide) ?_
          refine P_lald (j := 7) d_MD_line_108 f9e ⟨by decide, by decide⟩ (by decide) ?_
          refine P_iload d_MD_line_109 rfl ?_
          refine P_i2l d_MD_line_111 ?_
          refine P_lmul d_MD_line_112 ?_
          refine P_ladd d_MD_line_113 ?_
          generalize (((f9 1) * a2.toInt64) + ((f9 4) * a3.toInt64)) + ((f9 7) * a4.toInt64) = zz13
          show PW _ _ _ _ _ _ (114, [(0, .ref 467), (1, .int (nI a1N)), (2, .int a2), (3, .int a3), (4, .int a4), (5, .int (nI a5N))], [.long zz13, .long zz12, .ref 467], w8)
          refine P_aload_n d_MD_line_114 rfl ?_
          refine P_getf (i := 25) d_MD_line_115 ok_Model (by decide) L_MD_41 em8 rfl ?_
          refine P_iconst (v := 2) d_MD_line_118 (by decide) ?_
          refine P_lald (j := 2) d_MD_line_119 f9e ⟨by decide, by decide⟩ (by decide) ?_
          refine P_iload_n d_MD_line_120 rfl ?_
          refine P_i2l d_MD_line_121 ?_
          refine P_lmul d_MD_line_122 ?_
          refine P_aload_n d_MD_line_123 rfl ?_
          refine P_getf (i := 25) d_MD_line_124 ok_Model (by decide) L_MD_41 em8 rfl ?_
          refine P_iconst (v := 5) d_MD_line_127 (by decide) ?_
          refine P_lald (j := 5) d_MD_line_128 f9e ⟨by decide, by decide⟩ (by decide) ?_
          refine P_iload_n d_MD_line_129 rfl ?_
          refine P_i2l d_MD_line_130 ?_
          refine P_lmul d_MD_line_131 ?_
          refine P_ladd d_MD_line_132 ?_
          refine P_aload_n d_MD_line_133 rfl ?_
          refine P_getf (i := 25) d_MD_line_134 ok_Model (by decide) L_MD_41 em8 rfl ?_
          refine P_bipush (v := 8) d_MD_line_137 (by decide) ?_
          refine P_lald (j := 8) d_MD_line_139 f9e ⟨by decide, by decide⟩ (by decide) ?_
          refine P_iload d_MD_line_140 rfl ?_
          refine P_i2l d_MD_line_142 ?_
          refine P_lmul d_MD_line_143 ?_
          refine P_ladd d_MD_line_144 ?_
          generalize (((f9 2) * a2.toInt64) + ((f9 5) * a3.toInt64)) + ((f9 8) * a4.toInt64) = zz14
          show PW _ _ _ _ _ _ (145, [(0, .ref 467), (1, .int (nI a1N)), (2, .int a2), (3, .int a3), (4, .int a4), (5, .int (nI a5N))], [.long zz14, .long zz13, .long zz12, .ref 467], w8)
          refine P_callV (M := M_MD_line) (pc := 145) (as := [.long zz12, .long zz13, .long zz14]) (b := 467) d_MD_line_145 co_MD_laysThree ok_Model em8 L_MD_179 im_MD_laysThree se_MD_laysThree (s_MD_laysThree hI8 zz12 zz13 zz14) rfl ⟨by decide, by decide⟩ ⟨by decide, by decide⟩ (by exact le_b rfl) ?_ _ rfl
          rintro _ w15 ⟨rfl, hI15, hG15⟩
          have hF15 : Fr SN w w15 := Fr.tr hF8 hG15.1
          obtain ⟨th15, rm15, um15, sm15, em15⟩ := hG15.2 (nI tp) (nI qs) nq (nI un) ln nl sz at_ pl so vl wo fa fp lf lp ⟨_, _, _, _, em8⟩
          show PW _ _ _ _ _ _ (148, [(0, .ref 467), (1, .int (nI a1N)), (2, .int a2), (3, .int a3), (4, .int a4), (5, .int (nI a5N))], [], w15)
          refine P_aload_n d_MD_line_148 rfl ?_
          refine P_getf (i := 28) d_MD_line_149 ok_Model (by decide) L_MD_50 em15 rfl ?_
          refine P_iload d_MD_line_152 rfl ?_
          obtain ⟨f16, f16e⟩ := hI15.row (r := 479) (by decide) kc_479
          refine P_lald (j := a5N) d_MD_line_154 f16e (ix_nI (by omega)) (by omega) ?_
          exact P_lret d_MD_line_155 rfl (le_b rfl) (le_b rfl) ⟨⟨_, rfl⟩, hI15, FrM.of hF15 ⟨_, _, _, _, em⟩ ⟨_, _, _, _, em15⟩⟩
        · refine P_ldc2 (v := (-100000000000)) d_MD_line_47 L_MD_309 ?_
          exact P_lret d_MD_line_50 rfl (le_b rfl) (le_b rfl) ⟨⟨_, rfl⟩, hI8, FrM.of hF8 ⟨_, _, _, _, em⟩ ⟨_, _, _, _, em8⟩⟩
      · refine P_ldc2 (v := (-9223372036854775808)) d_MD_line_31 L_MD_307 ?_
        exact P_lret d_MD_line_34 rfl (le_b rfl) (le_b rfl) ⟨⟨_, rfl⟩, hI1, FrM.of hF1 ⟨_, _, _, _, em⟩ ⟨_, _, _, _, s1⟩⟩
theorem s_MD_horizon {G : pG} {w : pW} (hI : I w) (a1 : Int32) (a2 : Int32) : PM G M_MD_horizon 4 0 0 [.ref 467, .int a1, .int a2] w (fun r w' => (∃ v, r = some (.long v)) ∧ I w' ∧ FrM w w') := by
  refine PM_of pn_MD_horizon (le_b rfl) ?_
  show PW _ _ _ _ _ _ (0, [(0, .ref 467), (1, .int a1), (2, .int a2)], [], w)
  obtain ⟨tp, qs, un, nq, ln, nl, sz, at_, pl, so, vl, wo, fa, fp, lf, lp, th, rm, um, sm, htp, hqs, hun, em⟩ := hI.md
  obtain ⟨fn, nm, np, en, hnm, e8, hnp, e9⟩ := hI.now
  refine P_aload_n d_MD_horizon_0 rfl ?_
  refine P_iconst (v := 0) d_MD_horizon_1 (by decide) ?_
  refine P_putG (i := 0) d_MD_horizon_2 ok_Model (by decide) rfl L_MD_74 em (fun _ => rfl) (fun _ => rfl) (fun w1 e1 s1 n1 z1 => ?_)
  have hI1 : I w1 := hI.setM (show w1 = (_, wu _ 467 (mO (nI tp) (nI qs) nq (nI un) ln nl sz at_ pl so vl wo fa fp lf lp 0 rm um sm)) from e1) htp hqs hun
  have hF1 : Fr SN w w1 := Fr.set Fr.rf e1 (SN_t (by omega))
  show PW _ _ _ _ _ _ (5, [(0, .ref 467), (1, .int a1), (2, .int a2)], [], w1)
  refine P_aload_n d_MD_horizon_5 rfl ?_
  refine P_iload_n d_MD_horizon_6 rfl ?_
  refine P_callV (M := M_MD_horizon) (pc := 7) (as := [.int a1]) (b := 467) d_MD_horizon_7 co_MD_isMap ok_Model s1 L_MD_241 im_MD_isMap se_MD_isMap (s_MD_isMap a1 s1 htp hqs hun ((hF1.2 _ (SN_f (by omega))).trans en) hnm e8 hnp e9) rfl ⟨by decide, by decide⟩ ⟨by decide, by decide⟩ (by exact le_b rfl) ?_ _ rfl
  rintro _ u ⟨rfl, eu⟩
  subst u
  show PW _ _ _ _ _ _ (10, [(0, .ref 467), (1, .int a1), (2, .int a2)], [.int (bi (inN nm a1))], w1)
  refine P_if_eq 20 d_MD_horizon_10 (by decide) (fun c3 => ?_) (fun c3 => ?_)
  · refine P_ldc2 (v := (-9223372036854775808)) d_MD_horizon_20 L_MD_307 ?_
    exact P_lret d_MD_horizon_23 rfl (le_b rfl) (le_b rfl) ⟨⟨_, rfl⟩, hI1, FrM.of hF1 ⟨_, _, _, _, em⟩ ⟨_, _, _, _, s1⟩⟩
  · obtain ⟨a1N, ha1N, rfl⟩ := inN_of (bi_1 c3) (by omega)
    refine P_iload_n d_MD_horizon_13 rfl ?_
    refine P_callS (M := M_MD_horizon) (pc := 14) (as := [.int a2]) d_MD_horizon_14 co_MD_isThird L_MD_244 sm_MD_isThird (s_MD_isThird a2) rfl ⟨by decide, by decide⟩ ⟨by decide, by decide⟩ (by exact le_b rfl) ?_ _ rfl
    rintro _ u ⟨rfl, eu⟩
    subst u
    show PW _ _ _ _ _ _ (17, [(0, .ref 467), (1, .int (nI a1N)), (2, .int a2)], [.int (bi (inN 3 a2))], w1)
    refine P_if_ne 24 d_MD_horizon_17 (by decide) (fun c5 => ?_) (fun c5 => ?_)
    · obtain ⟨a2N, ha2N, rfl⟩ := inN_of (bi_1 c5) (by omega)
      refine P_aload_n d_MD_horizon_24 rfl ?_
      refine P_aload_n d_MD_horizon_25 rfl ?_
      refine P_getf (i := 7) d_MD_horizon_26 ok_Model (by decide) L_MD_21 s1 rfl ?_
      refine P_bipush (v := 9) d_MD_horizon_29 (by decide) ?_
      refine P_iload_n d_MD_horizon_31 rfl ?_
      refine P_imulN (a := 9) (b := a1N) d_MD_horizon_32 ?_
      show PW _ _ _ _ _ _ (33, [(0, .ref 467), (1, .int (nI a1N)), (2, .int (nI a2N))], [.int (nI (9 * a1N)), .ref 471, .ref 467], w1)
      refine P_bipush (v := 6) d_MD_horizon_33 (by decide) ?_
      refine P_iaddN (a := (9 * a1N)) (b := 6) d_MD_horizon_35 ?_
      show PW _ _ _ _ _ _ (36, [(0, .ref 467), (1, .int (nI a1N)), (2, .int (nI a2N))], [.int (nI ((9 * a1N) + 6)), .ref 471, .ref 467], w1)
      refine P_lald (j := (9 * a1N) + 6) d_MD_horizon_36 ((hF1.2 _ (SN_f (by omega))).trans en) (ix_nI (by omega)) (by omega) ?_
      refine P_aload_n d_MD_horizon_37 rfl ?_
      refine P_getf (i := 7) d_MD_horizon_38 ok_Model (by decide) L_MD_21 s1 rfl ?_
      refine P_bipush (v := 9) d_MD_horizon_41 (by decide) ?_
      refine P_iload_n d_MD_horizon_43 rfl ?_
      refine P_imulN (a := 9) (b := a1N) d_MD_horizon_44 ?_
      show PW _ _ _ _ _ _ (45, [(0, .ref 467), (1, .int (nI a1N)), (2, .int (nI a2N))], [.int (nI (9 * a1N)), .ref 471, .long (fn ((9 * a1N) + 6)), .ref 467], w1)
      refine P_bipush (v := 7) d_MD_horizon_45 (by decide) ?_
      refine P_iaddN (a := (9 * a1N)) (b := 7) d_MD_horizon_47 ?_
      show PW _ _ _ _ _ _ (48, [(0, .ref 467), (1, .int (nI a1N)), (2, .int (nI a2N))], [.int (nI ((9 * a1N) + 7)), .ref 471, .long (fn ((9 * a1N) + 6)), .ref 467], w1)
      refine P_lald (j := (9 * a1N) + 7) d_MD_horizon_48 ((hF1.2 _ (SN_f (by omega))).trans en) (ix_nI (by omega)) (by omega) ?_
      refine P_aload_n d_MD_horizon_49 rfl ?_
      refine P_getf (i := 7) d_MD_horizon_50 ok_Model (by decide) L_MD_21 s1 rfl ?_
      refine P_bipush (v := 9) d_MD_horizon_53 (by decide) ?_
      refine P_iload_n d_MD_horizon_55 rfl ?_
      refine P_imulN (a := 9) (b := a1N) d_MD_horizon_56 ?_
      show PW _ _ _ _ _ _ (57, [(0, .ref 467), (1, .int (nI a1N)), (2, .int (nI a2N))], [.int (nI (9 * a1N)), .ref 471, .long (fn ((9 * a1N) + 7)), .long (fn ((9 * a1N) + 6)), .ref 467], w1)
      refine P_bipush (v := 8) d_MD_horizon_57 (by decide) ?_
      refine P_iaddN (a := (9 * a1N)) (b := 8) d_MD_horizon_59 ?_
      show PW _ _ _ _ _ _ (60, [(0, .ref 467), (1, .int (nI a1N)), (2, .int (nI a2N))], [.int (nI ((9 * a1N) + 8)), .ref 471, .long (fn ((9 * a1N) + 7)), .long (fn ((9 * a1N) + 6)), .ref 467], w1)
      refine P_lald (j := (9 * a1N) + 8) d_MD_horizon_60 ((hF1.2 _ (SN_f (by omega))).trans en) (ix_nI (by omega)) (by omega) ?_
      refine P_callV (M := M_MD_horizon) (pc := 61) (as := [.long (fn ((9 * a1N) + 6)), .long (fn ((9 * a1N) + 7)), .long (fn ((9 * a1N) + 8))]) (b := 467) d_MD_horizon_61 co_MD_laysThree ok_Model s1 L_MD_179 im_MD_laysThree se_MD_laysThree (s_MD_laysThree hI1 (fn ((9 * a1N) + 6)) (fn ((9 * a1N) + 7)) (fn ((9 * a1N) + 8))) rfl ⟨by decide, by decide⟩ ⟨by decide, by decide⟩ (by exact le_b rfl) ?_ _ rfl
      rintro _ w6 ⟨rfl, hI6, hG6⟩
      have hF6 : Fr SN w w6 := Fr.tr hF1 hG6.1
      obtain ⟨th6, rm6, um6, sm6, em6⟩ := hG6.2 (nI tp) (nI qs) nq (nI un) ln nl sz at_ pl so vl wo fa fp lf lp ⟨_, _, _, _, s1⟩
      show PW _ _ _ _ _ _ (64, [(0, .ref 467), (1, .int (nI a1N)), (2, .int (nI a2N))], [], w6)
      refine P_aload_n d_MD_horizon_64 rfl ?_
      refine P_getf (i := 28) d_MD_horizon_65 ok_Model (by decide) L_MD_50 em6 rfl ?_
      refine P_iload_n d_MD_horizon_68 rfl ?_
      obtain ⟨f7, f7e⟩ := hI6.row (r := 479) (by decide) kc_479
      refine P_lald (j := a2N) d_MD_horizon_69 f7e (ix_nI (by omega)) (by omega) ?_
      exact P_lret d_MD_horizon_70 rfl (le_b rfl) (le_b rfl) ⟨⟨_, rfl⟩, hI6, FrM.of hF6 ⟨_, _, _, _, em⟩ ⟨_, _, _, _, em6⟩⟩
    · refine P_ldc2 (v := (-9223372036854775808)) d_MD_horizon_20 L_MD_307 ?_
      exact P_lret d_MD_horizon_23 rfl (le_b rfl) (le_b rfl) ⟨⟨_, rfl⟩, hI1, FrM.of hF1 ⟨_, _, _, _, em⟩ ⟨_, _, _, _, s1⟩⟩
