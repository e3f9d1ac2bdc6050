/-! shapes: the class (by program) -/
theorem s_CM_middle {G : pG} {w : pW} (hG : GO G) (hI : I w) (a1 : Int32) (a2 : Int32) (a3 : Int32) : PM G M_CM_middle 3 0 0 [.ref 0, .int a1, .int a2, .int a3] w (fun r w' => (∃ v, r = some (.long v)) ∧ I w' ∧ Fr SC w w') := by
  refine PM_of pn_CM_middle (le_b rfl) ?_
  show PW _ _ _ _ _ _ (0, [(0, .ref 0), (1, .int a1), (2, .int a2), (3, .int a3)], [], w)
  obtain ⟨b, hb, e0⟩ := hI.cm
  obtain ⟨hb1, hb2⟩ := pl_rng hb
  obtain ⟨lc, qc, mc, pc, eb, hlc, hqc, hmc, hpc⟩ := hI.pl hb
  refine P_aload_n d_CM_middle_0 rfl ?_
  refine P_getf (i := 0) d_CM_middle_1 ok_CM (by decide) L_CM_12 e0 rfl ?_
  refine P_iload_n d_CM_middle_4 rfl ?_
  refine P_callV (M := M_CM_middle) (pc := 5) (as := [.int a1]) (b := b) d_CM_middle_5 co_Plane_hasPoint ok_Plane eb L_CM_160 im_Plane_hasPoint se_Plane_hasPoint (s_Plane_hasPoint eb hlc hqc hmc hpc a1) rfl ⟨by decide, by decide⟩ ⟨by decide, by decide⟩ (by exact le_b rfl) ?_ _ rfl
  rintro _ u ⟨rfl, eu⟩
  subst u
  show PW _ _ _ _ _ _ (8, [(0, .ref 0), (1, .int a1), (2, .int a2), (3, .int a3)], [.int (bi (inN pc a1))], w)
  refine P_if_eq 29 d_CM_middle_8 (by decide) (fun c2 => ?_) (fun c2 => ?_)
  · refine P_ldc2 (v := (-9223372036854775808)) d_CM_middle_29 L_CM_270 ?_
    exact P_lret d_CM_middle_32 rfl (le_b rfl) (le_b rfl) ⟨⟨_, rfl⟩, hI, Fr.rf⟩
  · obtain ⟨a1N, ha1N, rfl⟩ := inN_of (bi_1 c2) (by omega)
    refine P_aload_n d_CM_middle_11 rfl ?_
    refine P_getf (i := 0) d_CM_middle_12 ok_CM (by decide) L_CM_12 e0 rfl ?_
    refine P_iload_n d_CM_middle_15 rfl ?_
    refine P_callV (M := M_CM_middle) (pc := 16) (as := [.int a2]) (b := b) d_CM_middle_16 co_Plane_hasPoint ok_Plane eb L_CM_160 im_Plane_hasPoint se_Plane_hasPoint (s_Plane_hasPoint eb hlc hqc hmc hpc a2) rfl ⟨by decide, by decide⟩ ⟨by decide, by decide⟩ (by exact le_b rfl) ?_ _ rfl
    rintro _ u ⟨rfl, eu⟩
    subst u
    show PW _ _ _ _ _ _ (19, [(0, .ref 0), (1, .int (nI a1N)), (2, .int a2), (3, .int a3)], [.int (bi (inN pc a2))], w)
    refine P_if_eq 29 d_CM_middle_19 (by decide) (fun c4 => ?_) (fun c4 => ?_)
    · refine P_ldc2 (v := (-9223372036854775808)) d_CM_middle_29 L_CM_270 ?_
      exact P_lret d_CM_middle_32 rfl (le_b rfl) (le_b rfl) ⟨⟨_, rfl⟩, hI, Fr.rf⟩
    · obtain ⟨a2N, ha2N, rfl⟩ := inN_of (bi_1 c4) (by omega)
      refine P_iload_n d_CM_middle_22 rfl ?_
      refine P_callS (M := M_CM_middle) (pc := 23) (as := [.int a3]) d_CM_middle_23 co_CM_isThird L_CM_154 sm_CM_isThird (s_CM_isThird a3) rfl ⟨by decide, by decide⟩ ⟨by decide, by decide⟩ (by exact le_b rfl) ?_ _ rfl
      rintro _ u ⟨rfl, eu⟩
      subst u
      show PW _ _ _ _ _ _ (26, [(0, .ref 0), (1, .int (nI a1N)), (2, .int (nI a2N)), (3, .int a3)], [.int (bi (inN 3 a3))], w)
      refine P_if_ne 33 d_CM_middle_26 (by decide) (fun c6 => ?_) (fun c6 => ?_)
      · obtain ⟨a3N, ha3N, rfl⟩ := inN_of (bi_1 c6) (by omega)
        refine P_aload_n d_CM_middle_33 rfl ?_
        refine P_iload_n d_CM_middle_34 rfl ?_
        refine P_callV (M := M_CM_middle) (pc := 35) (as := [.int (nI a1N)]) (b := 0) d_CM_middle_35 co_CM_isFar ok_CM e0 L_CM_398 im_CM_isFar se_CM_isFar (s_CM_isFar hG hI (nI a1N)) rfl ⟨by decide, by decide⟩ ⟨by decide, by decide⟩ (by exact le_b rfl) ?_ _ rfl
        rintro _ w7 ⟨⟨v7, rfl⟩, hI7, hG7⟩
        have hF7 : Fr SC w w7 := Fr.tr Fr.rf hG7
        show PW _ _ _ _ _ _ (38, [(0, .ref 0), (1, .int (nI a1N)), (2, .int (nI a2N)), (3, .int (nI a3N))], [.int (bi v7)], w7)
        refine P_if_ne 49 d_CM_middle_38 (by decide) (fun c8 => ?_) (fun c8 => ?_)
        · refine P_ldc2 (v := (-100000000000)) d_CM_middle_49 L_CM_275 ?_
          exact P_lret d_CM_middle_52 rfl (le_b rfl) (le_b rfl) ⟨⟨_, rfl⟩, hI7, hF7⟩
        · refine P_aload_n d_CM_middle_41 rfl ?_
          refine P_iload_n d_CM_middle_42 rfl ?_
          refine P_callV (M := M_CM_middle) (pc := 43) (as := [.int (nI a2N)]) (b := 0) d_CM_middle_43 co_CM_isFar ok_CM ((hF7.2 _ (SC_f (by omega))).trans e0) L_CM_398 im_CM_isFar se_CM_isFar (s_CM_isFar hG hI7 (nI a2N)) rfl ⟨by decide, by decide⟩ ⟨by decide, by decide⟩ (by exact le_b rfl) ?_ _ rfl
          rintro _ w9 ⟨⟨v9, rfl⟩, hI9, hG9⟩
          have hF9 : Fr SC w w9 := Fr.tr hF7 hG9
          show PW _ _ _ _ _ _ (46, [(0, .ref 0), (1, .int (nI a1N)), (2, .int (nI a2N)), (3, .int (nI a3N))], [.int (bi v9)], w9)
          refine P_if_eq 53 d_CM_middle_46 (by decide) (fun c10 => ?_) (fun c10 => ?_)
          · refine P_aload_n d_CM_middle_53 rfl ?_
            refine P_getf (i := 0) d_CM_middle_54 ok_CM (by decide) L_CM_12 ((hF9.2 _ (SC_f (by omega))).trans e0) rfl ?_
            refine P_getfN (i := 2) d_CM_middle_57 ok_Plane (by decide) L_CM_163 ((hF9.2 _ (SC_f (by omega))).trans eb) rfl ?_
            refine P_iload_n d_CM_middle_60 rfl ?_
            refine P_aald (j := a1N) (q := b + 19 + 1 + a1N) d_CM_middle_61 (hI9.ps hb) rfl (ix_nI (by omega)) (by omega) (rows_at (by omega)) ?_
            refine P_astore d_CM_middle_62 (by decide) rfl ?_
            refine P_aload_n d_CM_middle_64 rfl ?_
            refine P_getf (i := 0) d_CM_middle_65 ok_CM (by decide) L_CM_12 ((hF9.2 _ (SC_f (by omega))).trans e0) rfl ?_
            refine P_getfN (i := 2) d_CM_middle_68 ok_Plane (by decide) L_CM_163 ((hF9.2 _ (SC_f (by omega))).trans eb) rfl ?_
            refine P_iload_n d_CM_middle_71 rfl ?_
            refine P_aald (j := a2N) (q := b + 19 + 1 + a2N) d_CM_middle_72 (hI9.ps hb) rfl (ix_nI (by omega)) (by omega) (rows_at (by omega)) ?_
            refine P_astore d_CM_middle_73 (by decide) rfl ?_
            refine P_aload d_CM_middle_75 rfl ?_
            refine P_iconst (v := 0) d_CM_middle_77 (by decide) ?_
            obtain ⟨f11, f11e⟩ := hI9.row (r := b + 19 + 1 + a1N) (by omega) (Kc_p hb (by omega))
            refine P_lald (j := 0) d_CM_middle_78 f11e ⟨by decide, by decide⟩ (by decide) ?_
            refine P_aload d_CM_middle_79 rfl ?_
            refine P_iconst (v := 2) d_CM_middle_81 (by decide) ?_
            obtain ⟨f12, f12e⟩ := hI9.row (r := b + 19 + 1 + a2N) (by omega) (Kc_p hb (by omega))
            refine P_lald (j := 2) d_CM_middle_82 f12e ⟨by decide, by decide⟩ (by decide) ?_
            refine P_lmul d_CM_middle_83 ?_
            refine P_aload d_CM_middle_84 rfl ?_
            refine P_iconst (v := 0) d_CM_middle_86 (by decide) ?_
            refine P_lald (j := 0) d_CM_middle_87 f12e ⟨by decide, by decide⟩ (by decide) ?_
            refine P_aload d_CM_middle_88 rfl ?_
            refine P_iconst (v := 2) d_CM_middle_90 (by decide) ?_
            refine P_lald (j := 2) d_CM_middle_91 f11e ⟨by decide, by decide⟩ (by decide) ?_
            refine P_lmul d_CM_middle_92 ?_
            refine P_ladd d_CM_middle_93 ?_
            refine P_lstore d_CM_middle_94 (by decide) rfl ?_
            refine P_aload d_CM_middle_96 rfl ?_
            refine P_iconst (v := 1) d_CM_middle_98 (by decide) ?_
            refine P_lald (j := 1) d_CM_middle_99 f11e ⟨by decide, by decide⟩ (by decide) ?_
            refine P_aload d_CM_middle_100 rfl ?_
            refine P_iconst (v := 2) d_CM_middle_102 (by decide) ?_
            refine P_lald (j := 2) d_CM_middle_103 f12e ⟨by decide, by decide⟩ (by decide) ?_
            refine P_lmul d_CM_middle_104 ?_
            refine P_aload d_CM_middle_105 rfl ?_
            refine P_iconst (v := 1) d_CM_middle_107 (by decide) ?_
            refine P_lald (j := 1) d_CM_middle_108 f12e ⟨by decide, by decide⟩ (by decide) ?_
            refine P_aload d_CM_middle_109 rfl ?_
            refine P_iconst (v := 2) d_CM_middle_111 (by decide) ?_
            refine P_lald (j := 2) d_CM_middle_112 f11e ⟨by decide, by decide⟩ (by decide) ?_
            refine P_lmul d_CM_middle_113 ?_
            refine P_ladd d_CM_middle_114 ?_
            refine P_lstore d_CM_middle_115 (by decide) rfl ?_
            refine P_lload d_CM_middle_117 rfl ?_
            refine P_lload d_CM_middle_119 rfl ?_
            refine P_ldc2 (v := 2) d_CM_middle_121 L_CM_410 ?_
            refine P_aload d_CM_middle_124 rfl ?_
            refine P_iconst (v := 2) d_CM_middle_126 (by decide) ?_
            refine P_lald (j := 2) d_CM_middle_127 f11e ⟨by decide, by decide⟩ (by decide) ?_
            refine P_lmul d_CM_middle_128 ?_
            refine P_aload d_CM_middle_129 rfl ?_
            refine P_iconst (v := 2) d_CM_middle_131 (by decide) ?_
            refine P_lald (j := 2) d_CM_middle_132 f12e ⟨by decide, by decide⟩ (by decide) ?_
            refine P_lmul d_CM_middle_133 ?_
            refine P_aload_n d_CM_middle_134 rfl ?_
            refine P_getf (i := 12) d_CM_middle_135 ok_CM (by decide) L_CM_78 ((hF9.2 _ (SC_f (by omega))).trans e0) rfl ?_
            obtain ⟨f13, f13e⟩ := hI9.row (r := 453) (by decide) kc_453
            refine P_callS (M := M_CM_middle) (pc := 138) (as := [.long (((f11 0) * (f12 2)) + ((f12 0) * (f11 2))), .long (((f11 1) * (f12 2)) + ((f12 1) * (f11 2))), .long ((2 * (f11 2)) * (f12 2)), .ref 453]) d_CM_middle_138 co_Rows_put L_CM_238 sm_Rows_put (v_Rows_put f13e (by decide) (((f11 0) * (f12 2)) + ((f12 0) * (f11 2))) (((f11 1) * (f12 2)) + ((f12 1) * (f11 2))) ((2 * (f11 2)) * (f12 2))) rfl ⟨by decide, by decide⟩ ⟨by decide, by decide⟩ (by exact le_b rfl) ?_ _ rfl
            rintro _ w14 ⟨rfl, e14⟩
            have s14 := w_s e14
            generalize p3 _ _ _ _ = g15 at e14 s14
            have hI14 : I w14 := hI9.setL e14 kc_453
            have hF14 : Fr SC w w14 := Fr.set hF9 e14 (SC_t (by omega))
            show PW _ _ _ _ _ _ (141, [(0, .ref 0), (1, .int (nI a1N)), (2, .int (nI a2N)), (3, .int (nI a3N)), (4, .ref (b + 19 + 1 + a1N)), (5, .ref (b + 19 + 1 + a2N)), (6, .long (((f11 0) * (f12 2)) + ((f12 0) * (f11 2)))), (8, .long (((f11 1) * (f12 2)) + ((f12 1) * (f11 2))))], [], w14)
            refine P_aload_n d_CM_middle_141 rfl ?_
            refine P_getf (i := 12) d_CM_middle_142 ok_CM (by decide) L_CM_78 ((hF14.2 _ (SC_f (by omega))).trans e0) rfl ?_
            refine P_callS (M := M_CM_middle) (pc := 145) (as := [.ref 453]) d_CM_middle_145 co_Rows_reduce L_CM_352 sm_Rows_reduce (v_Rows_reduce s14 (by decide) (by decide) (by decide)) rfl ⟨by decide, by decide⟩ ⟨by decide, by decide⟩ (by exact le_b rfl) ?_ _ rfl
            rintro _ w16 ⟨rfl, e16⟩
            have s16 := w_s e16
            generalize rdC _ _ = g17 at e16 s16
            have hI16 : I w16 := hI14.setL e16 kc_453
            have hF16 : Fr SC w w16 := Fr.set hF14 e16 (SC_t (by omega))
            show PW _ _ _ _ _ _ (148, [(0, .ref 0), (1, .int (nI a1N)), (2, .int (nI a2N)), (3, .int (nI a3N)), (4, .ref (b + 19 + 1 + a1N)), (5, .ref (b + 19 + 1 + a2N)), (6, .long (((f11 0) * (f12 2)) + ((f12 0) * (f11 2)))), (8, .long (((f11 1) * (f12 2)) + ((f12 1) * (f11 2))))], [], w16)
            refine P_aload_n d_CM_middle_148 rfl ?_
            refine P_getf (i := 12) d_CM_middle_149 ok_CM (by decide) L_CM_78 ((hF16.2 _ (SC_f (by omega))).trans e0) rfl ?_
            refine P_iload_n d_CM_middle_152 rfl ?_
            refine P_lald (j := a3N) d_CM_middle_153 s16 (ix_nI (by omega)) (by omega) ?_
            exact P_lret d_CM_middle_154 rfl (le_b rfl) (le_b rfl) ⟨⟨_, rfl⟩, hI16, hF16⟩
          · refine P_ldc2 (v := (-100000000000)) d_CM_middle_49 L_CM_275 ?_
            exact P_lret d_CM_middle_52 rfl (le_b rfl) (le_b rfl) ⟨⟨_, rfl⟩, hI9, hF9⟩
      · refine P_ldc2 (v := (-9223372036854775808)) d_CM_middle_29 L_CM_270 ?_
        exact P_lret d_CM_middle_32 rfl (le_b rfl) (le_b rfl) ⟨⟨_, rfl⟩, hI, Fr.rf⟩
theorem s_CM_partner {G : pG} {w : pW} (hG : GO G) (hI : I w) (a1 : Int32) : PM G M_CM_partner 5 0 0 [.ref 0, .int a1] w (fun r w' => (∃ v, r = some (.int v)) ∧ I w' ∧ Fr SC w w') := by
  refine PM_of pn_CM_partner (le_b rfl) ?_
  show PW _ _ _ _ _ _ (0, [(0, .ref 0), (1, .int a1)], [], w)
  obtain ⟨b, hb, e0⟩ := hI.cm
  obtain ⟨hb1, hb2⟩ := pl_rng hb
  obtain ⟨lc, qc, mc, pc, eb, hlc, hqc, hmc, hpc⟩ := hI.pl hb
  refine P_aload_n d_CM_partner_0 rfl ?_
  refine P_getf (i := 0) d_CM_partner_1 ok_CM (by decide) L_CM_12 e0 rfl ?_
  refine P_iload_n d_CM_partner_4 rfl ?_
  refine P_callV (M := M_CM_partner) (pc := 5) (as := [.int a1]) (b := b) d_CM_partner_5 co_Plane_hasMap ok_Plane eb L_CM_151 im_Plane_hasMap se_Plane_hasMap (s_Plane_hasMap eb hlc hqc hmc hpc a1) rfl ⟨by decide, by decide⟩ ⟨by decide, by decide⟩ (by exact le_b rfl) ?_ _ rfl
  rintro _ u ⟨rfl, eu⟩
  subst u
  show PW _ _ _ _ _ _ (8, [(0, .ref 0), (1, .int a1)], [.int (bi (inN mc a1))], w)
  refine P_if_ne 13 d_CM_partner_8 (by decide) (fun c2 => ?_) (fun c2 => ?_)
  · obtain ⟨a1N, ha1N, rfl⟩ := inN_of (bi_1 c2) (by omega)
    refine P_iconst (v := 0) d_CM_partner_13 (by decide) ?_
    refine P_istore_n d_CM_partner_14 (by decide) rfl ?_
    refine PW_ind (σ := pW) (mc) (fun jj ss => I (ss) ∧ Fr SC w (ss)) (fun jj ss => (15, [(0, .ref 0), (1, .int (nI a1N)), (2, .int (nI jj))], [], ss)) ?_ ?_ 0 (w) (by omega) ⟨hI, Fr.rf⟩
    · rintro uj3 ⟨hIj3, hFj3⟩
      show PW _ _ _ _ _ _ (15, [(0, .ref 0), (1, .int (nI a1N)), (2, .int (nI mc))], [], uj3)
      refine P_iload_n d_CM_partner_15 rfl ?_
      refine P_aload_n d_CM_partner_16 rfl ?_
      refine P_getf (i := 0) d_CM_partner_17 ok_CM (by decide) L_CM_12 ((hFj3.2 _ (SC_f (by omega))).trans e0) rfl ?_
      refine P_getfN (i := 5) d_CM_partner_20 ok_Plane (by decide) L_CM_225 ((hFj3.2 _ (SC_f (by omega))).trans eb) rfl ?_
      refine P_icmp_ge 43 d_CM_partner_23 (by decide) (fun _ => ?_) (fun h => absurd (Int32.le_refl _) h)
      refine P_bipush (v := (-2)) d_CM_partner_43 (by decide) ?_
      exact P_iret d_CM_partner_45 rfl (le_b rfl) (le_b rfl) ⟨⟨_, rfl⟩, hIj3, hFj3⟩
    · rintro j3 uj3 hj3 ⟨hIj3, hFj3⟩ kkj3
      show PW _ _ _ _ _ _ (15, [(0, .ref 0), (1, .int (nI a1N)), (2, .int (nI j3))], [], uj3)
      refine P_iload_n d_CM_partner_15 rfl ?_
      refine P_aload_n d_CM_partner_16 rfl ?_
      refine P_getf (i := 0) d_CM_partner_17 ok_CM (by decide) L_CM_12 ((hFj3.2 _ (SC_f (by omega))).trans e0) rfl ?_
      refine P_getfN (i := 5) d_CM_partner_20 ok_Plane (by decide) L_CM_225 ((hFj3.2 _ (SC_f (by omega))).trans eb) rfl ?_
      refine P_icmp_ge 43 d_CM_partner_23 (by decide) (fun h => absurd h (nI_geF (a := j3) (b := mc) (by omega) (by omega))) (fun _ => ?_)
      refine P_aload_n d_CM_partner_26 rfl ?_
      refine P_iload_n d_CM_partner_27 rfl ?_
      refine P_iload_n d_CM_partner_28 rfl ?_
      refine P_callV (M := M_CM_partner) (pc := 29) (as := [.int (nI a1N), .int (nI j3)]) (b := 0) d_CM_partner_29 co_CM_areInverse ok_CM ((hFj3.2 _ (SC_f (by omega))).trans e0) L_CM_314 im_CM_areInverse se_CM_areInverse (s_CM_areInverse hG hIj3 a1N (by omega) j3 (by omega)) rfl ⟨by decide, by decide⟩ ⟨by decide, by decide⟩ (by exact le_b rfl) ?_ _ rfl
      rintro _ w4 ⟨⟨v4, rfl⟩, hI4, hG4⟩
      have hF4 : Fr SC w w4 := Fr.tr hFj3 hG4
      show PW _ _ _ _ _ _ (32, [(0, .ref 0), (1, .int (nI a1N)), (2, .int (nI j3))], [.int (bi v4)], w4)
      refine P_if_eq 37 d_CM_partner_32 (by decide) (fun c5 => ?_) (fun c5 => ?_)
      · refine P_iinc (v := nI (j3 + 1)) d_CM_partner_37 (by decide) rfl (nI_add j3 1) rfl ?_
        refine P_goto 15 d_CM_partner_40 (by decide) ?_
        exact kkj3 (w4) ⟨hI4, hF4⟩
      · refine P_iload_n d_CM_partner_35 rfl ?_
        exact P_iret d_CM_partner_36 rfl (le_b rfl) (le_b rfl) ⟨⟨_, rfl⟩, hI4, hF4⟩
  · refine P_iconst (v := (-1)) d_CM_partner_11 (by decide) ?_
    exact P_iret d_CM_partner_12 rfl (le_b rfl) (le_b rfl) ⟨⟨_, rfl⟩, hI, Fr.rf⟩
theorem s_CM_cornerBy {G : pG} {w : pW} (hG : GO G) (hI : I w) (a1 : Int32) (a2 : Int32) (a3 : Int32) (a4 : Int32) : PM G M_CM_cornerBy 4 0 0 [.ref 0, .int a1, .int a2, .int a3, .int a4] w (fun r w' => (∃ v, r = some (.long v)) ∧ I w' ∧ Fr SC w w') := by
  refine PM_of pn_CM_cornerBy (le_b rfl) ?_
  show PW _ _ _ _ _ _ (0, [(0, .ref 0), (1, .int a1), (2, .int a2), (3, .int a3), (4, .int a4)], [], w)
  obtain ⟨b, hb, e0⟩ := hI.cm
  obtain ⟨hb1, hb2⟩ := pl_rng hb
  obtain ⟨lc, qc, mc, pc, eb, hlc, hqc, hmc, hpc⟩ := hI.pl hb
  refine P_aload_n d_CM_cornerBy_0 rfl ?_
  refine P_getf (i := 0) d_CM_cornerBy_1 ok_CM (by decide) L_CM_12 e0 rfl ?_
  refine P_iload_n d_CM_cornerBy_4 rfl ?_
  refine P_callV (M := M_CM_cornerBy) (pc := 5) (as := [.int a1]) (b := b) d_CM_cornerBy_5 co_Plane_hasMap ok_Plane eb L_CM_151 im_Plane_hasMap se_Plane_hasMap (s_Plane_hasMap eb hlc hqc hmc hpc a1) rfl ⟨by decide, by decide⟩ ⟨by decide, by decide⟩ (by exact le_b rfl) ?_ _ rfl
  rintro _ u ⟨rfl, eu⟩
  subst u
  show PW _ _ _ _ _ _ (8, [(0, .ref 0), (1, .int a1), (2, .int a2), (3, .int a3), (4, .int a4)], [.int (bi (inN mc a1))], w)
  refine P_if_eq 37 d_CM_cornerBy_8 (by decide) (fun c2 => ?_) (fun c2 => ?_)
  · refine P_ldc2 (v := (-9223372036854775808)) d_CM_cornerBy_37 L_CM_270 ?_
    exact P_lret d_CM_cornerBy_40 rfl (le_b rfl) (le_b rfl) ⟨⟨_, rfl⟩, hI, Fr.rf⟩
  · obtain ⟨a1N, ha1N, rfl⟩ := inN_of (bi_1 c2) (by omega)
    refine P_aload_n d_CM_cornerBy_11 rfl ?_
    refine P_getf (i := 0) d_CM_cornerBy_12 ok_CM (by decide) L_CM_12 e0 rfl ?_
    refine P_iload_n d_CM_cornerBy_15 rfl ?_
    refine P_callV (M := M_CM_cornerBy) (pc := 16) (as := [.int a2]) (b := b) d_CM_cornerBy_16 co_Plane_hasQuad ok_Plane eb L_CM_127 im_Plane_hasQuad se_Plane_hasQuad (s_Plane_hasQuad eb hlc hqc hmc hpc a2) rfl ⟨by decide, by decide⟩ ⟨by decide, by decide⟩ (by exact le_b rfl) ?_ _ rfl
    rintro _ u ⟨rfl, eu⟩
    subst u
    show PW _ _ _ _ _ _ (19, [(0, .ref 0), (1, .int (nI a1N)), (2, .int a2), (3, .int a3), (4, .int a4)], [.int (bi (inN qc a2))], w)
    refine P_if_eq 37 d_CM_cornerBy_19 (by decide) (fun c4 => ?_) (fun c4 => ?_)
    · refine P_ldc2 (v := (-9223372036854775808)) d_CM_cornerBy_37 L_CM_270 ?_
      exact P_lret d_CM_cornerBy_40 rfl (le_b rfl) (le_b rfl) ⟨⟨_, rfl⟩, hI, Fr.rf⟩
    · obtain ⟨a2N, ha2N, rfl⟩ := inN_of (bi_1 c4) (by omega)
      refine P_iload_n d_CM_cornerBy_22 rfl ?_
      refine P_callS (M := M_CM_cornerBy) (pc := 23) (as := [.int a3]) d_CM_cornerBy_23 co_CM_isCorner L_CM_130 sm_CM_isCorner (s_CM_isCorner a3) rfl ⟨by decide, by decide⟩ ⟨by decide, by decide⟩ (by exact le_b rfl) ?_ _ rfl
      rintro _ u ⟨rfl, eu⟩
      subst u
      show PW _ _ _ _ _ _ (26, [(0, .ref 0), (1, .int (nI a1N)), (2, .int (nI a2N)), (3, .int a3), (4, .int a4)], [.int (bi (inN 4 a3))], w)
      refine P_if_eq 37 d_CM_cornerBy_26 (by decide) (fun c6 => ?_) (fun c6 => ?_)
      · refine P_ldc2 (v := (-9223372036854775808)) d_CM_cornerBy_37 L_CM_270 ?_
        exact P_lret d_CM_cornerBy_40 rfl (le_b rfl) (le_b rfl) ⟨⟨_, rfl⟩, hI, Fr.rf⟩
      · obtain ⟨a3N, ha3N, rfl⟩ := inN_of (bi_1 c6) (by omega)
        refine P_iload d_CM_cornerBy_29 rfl ?_
        refine P_callS (M := M_CM_cornerBy) (pc := 31) (as := [.int a4]) d_CM_cornerBy_31 co_CM_isThird L_CM_154 sm_CM_isThird (s_CM_isThird a4) rfl ⟨by decide, by decide⟩ ⟨by decide, by decide⟩ (by exact le_b rfl) ?_ _ rfl
        rintro _ u ⟨rfl, eu⟩
        subst u
        show PW _ _ _ _ _ _ (34, [(0, .ref 0), (1, .int (nI a1N)), (2, .int (nI a2N)), (3, .int (nI a3N)), (4, .int a4)], [.int (bi (inN 3 a4))], w)
        refine P_if_ne 41 d_CM_cornerBy_34 (by decide) (fun c8 => ?_) (fun c8 => ?_)
        · obtain ⟨a4N, ha4N, rfl⟩ := inN_of (bi_1 c8) (by omega)
          refine P_aload_n d_CM_cornerBy_41 rfl ?_
          refine P_getf (i := 0) d_CM_cornerBy_42 ok_CM (by decide) L_CM_12 e0 rfl ?_
          refine P_getfN (i := 1) d_CM_cornerBy_45 ok_Plane (by decide) L_CM_157 eb rfl ?_
          refine P_iload_n d_CM_cornerBy_48 rfl ?_
          refine P_aald (j := a1N) (q := b + 2 + 1 + a1N) d_CM_cornerBy_49 (hI.ms hb) rfl (ix_nI (by omega)) (by omega) (rows_at (by omega)) ?_
          refine P_aload_n d_CM_cornerBy_50 rfl ?_
          refine P_getf (i := 0) d_CM_cornerBy_51 ok_CM (by decide) L_CM_12 e0 rfl ?_
          refine P_getfN (i := 0) d_CM_cornerBy_54 ok_Plane (by decide) L_CM_142 eb rfl ?_
          refine P_iload_n d_CM_cornerBy_57 rfl ?_
          refine P_aald (j := a2N) (q := b + 1 + 27 + 6 * a2N) d_CM_cornerBy_58 (hI.qs hb) rfl (ix_nI (by omega)) (by omega) (pq_at (by omega)) ?_
          refine P_getfN (i := 0) d_CM_cornerBy_59 ok_Quad (by decide) L_CM_146 (hI.quad hb (by omega)) rfl ?_
          refine P_iload_n d_CM_cornerBy_62 rfl ?_
          refine P_aald (j := a3N) (q := b + 1 + 27 + 6 * a2N + 1 + 1 + a3N) d_CM_cornerBy_63 (hI.rows (by omega) (Kc_q hb (by omega)).2.1) rfl (ix_nI (by omega)) (by omega) (rows_at (by omega)) ?_
          refine P_aload_n d_CM_cornerBy_64 rfl ?_
          refine P_getf (i := 12) d_CM_cornerBy_65 ok_CM (by decide) L_CM_78 e0 rfl ?_
          obtain ⟨f9, f9e⟩ := hI.row (r := b + 2 + 1 + a1N) (by omega) (Kc_m hb (by omega))
          obtain ⟨f10, f10e⟩ := hI.row (r := b + 1 + 27 + 6 * a2N + 1 + 1 + a3N) (by omega) ((Kc_q hb (by omega)).2.2 _ (by omega))
          obtain ⟨f11, f11e⟩ := hI.row (r := 453) (by decide) kc_453
          refine P_callS (M := M_CM_cornerBy) (pc := 68) (as := [.ref (b + 2 + 1 + a1N), .ref (b + 1 + 27 + 6 * a2N + 1 + 1 + a3N), .ref 453]) d_CM_cornerBy_68 co_Maps_apply L_CM_248 sm_Maps_apply (s_Maps_apply f9e f10e f11e (by decide) (by omega) (by omega)) rfl ⟨by decide, by decide⟩ ⟨by decide, by decide⟩ (by exact le_b rfl) ?_ _ rfl
          rintro _ w12 ⟨rfl, g12, e12⟩
          have s12 := w_s e12
          have hI12 : I w12 := hI.setL e12 kc_453
          have hF12 : Fr SC w w12 := Fr.set Fr.rf e12 (SC_t (by omega))
          show PW _ _ _ _ _ _ (71, [(0, .ref 0), (1, .int (nI a1N)), (2, .int (nI a2N)), (3, .int (nI a3N)), (4, .int (nI a4N))], [], w12)
          refine P_aload_n d_CM_cornerBy_71 rfl ?_
          refine P_getf (i := 12) d_CM_cornerBy_72 ok_CM (by decide) L_CM_78 ((hF12.2 _ (SC_f (by omega))).trans e0) rfl ?_
          refine P_iload d_CM_cornerBy_75 rfl ?_
          refine P_lald (j := a4N) d_CM_cornerBy_77 s12 (ix_nI (by omega)) (by omega) ?_
          exact P_lret d_CM_cornerBy_78 rfl (le_b rfl) (le_b rfl) ⟨⟨_, rfl⟩, hI12, hF12⟩
        · refine P_ldc2 (v := (-9223372036854775808)) d_CM_cornerBy_37 L_CM_270 ?_
          exact P_lret d_CM_cornerBy_40 rfl (le_b rfl) (le_b rfl) ⟨⟨_, rfl⟩, hI, Fr.rf⟩
theorem s_CM_scale {G : pG} {w : pW} (hG : GO G) (hI : I w) (a1 : Int32) (a2 : Int32) : PM G M_CM_scale 3 0 0 [.ref 0, .int a1, .int a2] w (fun r w' => (∃ v, r = some (.long v)) ∧ I w' ∧ Fr SC w w') := by
  refine PM_of pn_CM_scale (le_b rfl) ?_
  show PW _ _ _ _ _ _ (0, [(0, .ref 0), (1, .int a1), (2, .int a2)], [], w)
  obtain ⟨b, hb, e0⟩ := hI.cm
  obtain ⟨hb1, hb2⟩ := pl_rng hb
  obtain ⟨lc, qc, mc, pc, eb, hlc, hqc, hmc, hpc⟩ := hI.pl hb
  refine P_aload_n d_CM_scale_0 rfl ?_
  refine P_getf (i := 0) d_CM_scale_1 ok_CM (by decide) L_CM_12 e0 rfl ?_
  refine P_iload_n d_CM_scale_4 rfl ?_
  refine P_callV (M := M_CM_scale) (pc := 5) (as := [.int a1]) (b := b) d_CM_scale_5 co_Plane_hasMap ok_Plane eb L_CM_151 im_Plane_hasMap se_Plane_hasMap (s_Plane_hasMap eb hlc hqc hmc hpc a1) rfl ⟨by decide, by decide⟩ ⟨by decide, by decide⟩ (by exact le_b rfl) ?_ _ rfl
  rintro _ u ⟨rfl, eu⟩
  subst u
  show PW _ _ _ _ _ _ (8, [(0, .ref 0), (1, .int a1), (2, .int a2)], [.int (bi (inN mc a1))], w)
  refine P_if_eq 18 d_CM_scale_8 (by decide) (fun c2 => ?_) (fun c2 => ?_)
  · refine P_ldc2 (v := (-9223372036854775808)) d_CM_scale_18 L_CM_270 ?_
    exact P_lret d_CM_scale_21 rfl (le_b rfl) (le_b rfl) ⟨⟨_, rfl⟩, hI, Fr.rf⟩
  · obtain ⟨a1N, ha1N, rfl⟩ := inN_of (bi_1 c2) (by omega)
    refine P_iload_n d_CM_scale_11 rfl ?_
    refine P_callS (M := M_CM_scale) (pc := 12) (as := [.int a2]) d_CM_scale_12 co_CM_isPart L_CM_136 sm_CM_isPart (s_CM_isPart a2) rfl ⟨by decide, by decide⟩ ⟨by decide, by decide⟩ (by exact le_b rfl) ?_ _ rfl
    rintro _ u ⟨rfl, eu⟩
    subst u
    show PW _ _ _ _ _ _ (15, [(0, .ref 0), (1, .int (nI a1N)), (2, .int a2)], [.int (bi (inN 2 a2))], w)
    refine P_if_ne 22 d_CM_scale_15 (by decide) (fun c4 => ?_) (fun c4 => ?_)
    · obtain ⟨a2N, ha2N, rfl⟩ := inN_of (bi_1 c4) (by omega)
      refine P_aload_n d_CM_scale_22 rfl ?_
      refine P_getf (i := 0) d_CM_scale_23 ok_CM (by decide) L_CM_12 e0 rfl ?_
      refine P_getfN (i := 1) d_CM_scale_26 ok_Plane (by decide) L_CM_157 eb rfl ?_
      refine P_iload_n d_CM_scale_29 rfl ?_
      refine P_aald (j := a1N) (q := b + 2 + 1 + a1N) d_CM_scale_30 (hI.ms hb) rfl (ix_nI (by omega)) (by omega) (rows_at (by omega)) ?_
      refine P_astore_n d_CM_scale_31 (by decide) rfl ?_
      refine P_aload_n d_CM_scale_32 rfl ?_
      obtain ⟨f5, f5e⟩ := hI.row (r := b + 2 + 1 + a1N) (by omega) (Kc_m hb (by omega))
      refine P_callS (M := M_CM_scale) (pc := 33) (as := [.ref (b + 2 + 1 + a1N)]) d_CM_scale_33 co_Maps_kindOf L_CM_294 sm_Maps_kindOf (s_Maps_kindOf f5e) rfl ⟨by decide, by decide⟩ ⟨by decide, by decide⟩ (by exact le_b rfl) ?_ _ rfl
      rintro _ u ⟨⟨v6, rfl⟩, eu⟩
      subst u
      show PW _ _ _ _ _ _ (36, [(0, .ref 0), (1, .int (nI a1N)), (2, .int (nI a2N)), (3, .ref (b + 2 + 1 + a1N))], [.int v6], w)
      refine P_iconst (v := 3) d_CM_scale_36 (by decide) ?_
      refine P_icmp_le 44 d_CM_scale_37 (by decide) (fun c7 => ?_) (fun c7 => ?_)
      · refine P_aload_n d_CM_scale_44 rfl ?_
        refine P_iconst (v := 0) d_CM_scale_45 (by decide) ?_
        refine P_lald (j := 0) d_CM_scale_46 f5e ⟨by decide, by decide⟩ (by decide) ?_
        refine P_aload_n d_CM_scale_47 rfl ?_
        refine P_iconst (v := 0) d_CM_scale_48 (by decide) ?_
        refine P_lald (j := 0) d_CM_scale_49 f5e ⟨by decide, by decide⟩ (by decide) ?_
        refine P_lmul d_CM_scale_50 ?_
        refine P_aload_n d_CM_scale_51 rfl ?_
        refine P_iconst (v := 3) d_CM_scale_52 (by decide) ?_
        refine P_lald (j := 3) d_CM_scale_53 f5e ⟨by decide, by decide⟩ (by decide) ?_
        refine P_aload_n d_CM_scale_54 rfl ?_
        refine P_iconst (v := 3) d_CM_scale_55 (by decide) ?_
        refine P_lald (j := 3) d_CM_scale_56 f5e ⟨by decide, by decide⟩ (by decide) ?_
        refine P_lmul d_CM_scale_57 ?_
        refine P_ladd d_CM_scale_58 ?_
        refine P_aload_n d_CM_scale_59 rfl ?_
        refine P_bipush (v := 8) d_CM_scale_60 (by decide) ?_
        refine P_lald (j := 8) d_CM_scale_62 f5e ⟨by decide, by decide⟩ (by decide) ?_
        refine P_aload_n d_CM_scale_63 rfl ?_
        refine P_bipush (v := 8) d_CM_scale_64 (by decide) ?_
        refine P_lald (j := 8) d_CM_scale_66 f5e ⟨by decide, by decide⟩ (by decide) ?_
        refine P_lmul d_CM_scale_67 ?_
        refine P_iload_n d_CM_scale_68 rfl ?_
        refine P_callS (M := M_CM_scale) (pc := 69) (as := [.long (((f5 0) * (f5 0)) + ((f5 3) * (f5 3))), .long ((f5 8) * (f5 8)), .int (nI a2N)]) d_CM_scale_69 co_Rows_lowest L_CM_345 sm_Rows_lowest (s_Rows_lowest (((f5 0) * (f5 0)) + ((f5 3) * (f5 3))) ((f5 8) * (f5 8)) (nI a2N)) rfl ⟨by decide, by decide⟩ ⟨by decide, by decide⟩ (by exact le_b rfl) ?_ _ rfl
        rintro _ u ⟨⟨v8, rfl⟩, eu⟩
        subst u
        show PW _ _ _ _ _ _ (72, [(0, .ref 0), (1, .int (nI a1N)), (2, .int (nI a2N)), (3, .ref (b + 2 + 1 + a1N))], [.long v8], w)
        exact P_lret d_CM_scale_72 rfl (le_b rfl) (le_b rfl) ⟨⟨_, rfl⟩, hI, Fr.rf⟩
      · refine P_ldc2 (v := (-2)) d_CM_scale_40 L_CM_408 ?_
        exact P_lret d_CM_scale_43 rfl (le_b rfl) (le_b rfl) ⟨⟨_, rfl⟩, hI, Fr.rf⟩
    · refine P_ldc2 (v := (-9223372036854775808)) d_CM_scale_18 L_CM_270 ?_
      exact P_lret d_CM_scale_21 rfl (le_b rfl) (le_b rfl) ⟨⟨_, rfl⟩, hI, Fr.rf⟩
theorem s_CM_likeness {G : pG} {w : pW} (hG : GO G) (hI : I w) (a1 : Int32) (a2 : Int32) (a3 : Int32) : PM G M_CM_likeness 5 0 0 [.ref 0, .int a1, .int a2, .int a3] w (fun r w' => (∃ v, r = some (.int v)) ∧ I w' ∧ Fr SC w w') := by
  refine PM_of pn_CM_likeness (le_b rfl) ?_
  show PW _ _ _ _ _ _ (0, [(0, .ref 0), (1, .int a1), (2, .int a2), (3, .int a3)], [], w)
  obtain ⟨b, hb, e0⟩ := hI.cm
  obtain ⟨hb1, hb2⟩ := pl_rng hb
  obtain ⟨lc, qc, mc, pc, eb, hlc, hqc, hmc, hpc⟩ := hI.pl hb
  refine P_aload_n d_CM_likeness_0 rfl ?_
  refine P_getf (i := 0) d_CM_likeness_1 ok_CM (by decide) L_CM_12 e0 rfl ?_
  refine P_iload_n d_CM_likeness_4 rfl ?_
  refine P_callV (M := M_CM_likeness) (pc := 5) (as := [.int a1]) (b := b) d_CM_likeness_5 co_Plane_hasQuad ok_Plane eb L_CM_127 im_Plane_hasQuad se_Plane_hasQuad (s_Plane_hasQuad eb hlc hqc hmc hpc a1) rfl ⟨by decide, by decide⟩ ⟨by decide, by decide⟩ (by exact le_b rfl) ?_ _ rfl
  rintro _ u ⟨rfl, eu⟩
  subst u
  show PW _ _ _ _ _ _ (8, [(0, .ref 0), (1, .int a1), (2, .int a2), (3, .int a3)], [.int (bi (inN qc a1))], w)
  refine P_if_eq 29 d_CM_likeness_8 (by decide) (fun c2 => ?_) (fun c2 => ?_)
  · refine P_iconst (v := (-1)) d_CM_likeness_29 (by decide) ?_
    exact P_iret d_CM_likeness_30 rfl (le_b rfl) (le_b rfl) ⟨⟨_, rfl⟩, hI, Fr.rf⟩
  · obtain ⟨a1N, ha1N, rfl⟩ := inN_of (bi_1 c2) (by omega)
    refine P_aload_n d_CM_likeness_11 rfl ?_
    refine P_getf (i := 0) d_CM_likeness_12 ok_CM (by decide) L_CM_12 e0 rfl ?_
    refine P_iload_n d_CM_likeness_15 rfl ?_
    refine P_callV (M := M_CM_likeness) (pc := 16) (as := [.int a2]) (b := b) d_CM_likeness_16 co_Plane_hasQuad ok_Plane eb L_CM_127 im_Plane_hasQuad se_Plane_hasQuad (s_Plane_hasQuad eb hlc hqc hmc hpc a2) rfl ⟨by decide, by decide⟩ ⟨by decide, by decide⟩ (by exact le_b rfl) ?_ _ rfl
    rintro _ u ⟨rfl, eu⟩
    subst u
    show PW _ _ _ _ _ _ (19, [(0, .ref 0), (1, .int (nI a1N)), (2, .int a2), (3, .int a3)], [.int (bi (inN qc a2))], w)
    refine P_if_eq 29 d_CM_likeness_19 (by decide) (fun c4 => ?_) (fun c4 => ?_)
    · refine P_iconst (v := (-1)) d_CM_likeness_29 (by decide) ?_
      exact P_iret d_CM_likeness_30 rfl (le_b rfl) (le_b rfl) ⟨⟨_, rfl⟩, hI, Fr.rf⟩
    · obtain ⟨a2N, ha2N, rfl⟩ := inN_of (bi_1 c4) (by omega)
      refine P_iload_n d_CM_likeness_22 rfl ?_
      refine P_callS (M := M_CM_likeness) (pc := 23) (as := [.int a3]) d_CM_likeness_23 co_CM_isPart L_CM_136 sm_CM_isPart (s_CM_isPart a3) rfl ⟨by decide, by decide⟩ ⟨by decide, by decide⟩ (by exact le_b rfl) ?_ _ rfl
      rintro _ u ⟨rfl, eu⟩
      subst u
      show PW _ _ _ _ _ _ (26, [(0, .ref 0), (1, .int (nI a1N)), (2, .int (nI a2N)), (3, .int a3)], [.int (bi (inN 2 a3))], w)
      refine P_if_ne 31 d_CM_likeness_26 (by decide) (fun c6 => ?_) (fun c6 => ?_)
      · obtain ⟨a3N, ha3N, rfl⟩ := inN_of (bi_1 c6) (by omega)
        refine P_bipush (v := 6) d_CM_likeness_31 (by decide) ?_
        refine P_istore d_CM_likeness_33 (by decide) rfl ?_
        refine P_iconst (v := 0) d_CM_likeness_35 (by decide) ?_
        refine P_istore d_CM_likeness_36 (by decide) rfl ?_
        refine P_iconst (v := 0) d_CM_likeness_38 (by decide) ?_
        refine P_istore d_CM_likeness_39 (by decide) rfl ?_
        refine PW_ind (σ := Int32 × Int32 × pW) (24) (fun jj ss => I (ss.2.2) ∧ Fr SC w (ss.2.2)) (fun jj ss => (41, [(0, .ref 0), (1, .int (nI a1N)), (2, .int (nI a2N)), (3, .int (nI a3N)), (4, .int ss.1), (5, .int ss.2.1), (6, .int (nI jj))], [], ss.2.2)) ?_ ?_ 0 (6, 0, w) (by omega) ⟨hI, Fr.rf⟩
        · rintro ⟨j7_4, j7_5, uj7⟩ ⟨hIj7, hFj7⟩
          show PW _ _ _ _ _ _ (41, [(0, .ref 0), (1, .int (nI a1N)), (2, .int (nI a2N)), (3, .int (nI a3N)), (4, .int j7_4), (5, .int j7_5), (6, .int 24)], [], uj7)
          refine P_iload d_CM_likeness_41 rfl ?_
          refine P_bipush (v := 24) d_CM_likeness_43 (by decide) ?_
          refine P_icmp_ge 109 d_CM_likeness_45 (by decide) (fun _ => ?_) (fun h => absurd (by decide) h)
          refine P_iload_n d_CM_likeness_109 rfl ?_
          refine P_if_ne 118 d_CM_likeness_110 (by decide) (fun c8 => ?_) (fun c8 => ?_)
          · have ic8 : a3N ≠ 0 := fun q => c8 (congrArg nI q)
            refine P_iload d_CM_likeness_118 rfl ?_
            exact P_iret d_CM_likeness_120 rfl (le_b rfl) (le_b rfl) ⟨⟨_, rfl⟩, hIj7, hFj7⟩
          · have ic8 : a3N = 0 := (nI_eq (by omega) (by omega)).mp c8
            refine P_iload d_CM_likeness_113 rfl ?_
            refine P_goto 120 d_CM_likeness_115 (by decide) ?_
            exact P_iret d_CM_likeness_120 rfl (le_b rfl) (le_b rfl) ⟨⟨_, rfl⟩, hIj7, hFj7⟩
        · rintro j7 ⟨j7_4, j7_5, uj7⟩ hj7 ⟨hIj7, hFj7⟩ kkj7
          show PW _ _ _ _ _ _ (41, [(0, .ref 0), (1, .int (nI a1N)), (2, .int (nI a2N)), (3, .int (nI a3N)), (4, .int j7_4), (5, .int j7_5), (6, .int (nI j7))], [], uj7)
          refine P_iload d_CM_likeness_41 rfl ?_
          refine P_bipush (v := 24) d_CM_likeness_43 (by decide) ?_
          refine P_icmp_ge 109 d_CM_likeness_45 (by decide) (fun h => absurd h (nI_geF (a := j7) (b := 24) (by omega) (by omega))) (fun _ => ?_)
          refine P_aload_n d_CM_likeness_48 rfl ?_
          refine P_getf (i := 5) d_CM_likeness_49 ok_CM (by decide) L_CM_31 ((hFj7.2 _ (SC_f (by omega))).trans e0) rfl ?_
          refine P_aload_n d_CM_likeness_52 rfl ?_
          refine P_getf (i := 0) d_CM_likeness_53 ok_CM (by decide) L_CM_12 ((hFj7.2 _ (SC_f (by omega))).trans e0) rfl ?_
          refine P_getfN (i := 0) d_CM_likeness_56 ok_Plane (by decide) L_CM_142 ((hFj7.2 _ (SC_f (by omega))).trans eb) rfl ?_
          refine P_iload_n d_CM_likeness_59 rfl ?_
          refine P_aald (j := a1N) (q := b + 1 + 27 + 6 * a1N) d_CM_likeness_60 (hIj7.qs hb) rfl (ix_nI (by omega)) (by omega) (pq_at (by omega)) ?_
          refine P_aload_n d_CM_likeness_61 rfl ?_
          refine P_getf (i := 0) d_CM_likeness_62 ok_CM (by decide) L_CM_12 ((hFj7.2 _ (SC_f (by omega))).trans e0) rfl ?_
          refine P_getfN (i := 0) d_CM_likeness_65 ok_Plane (by decide) L_CM_142 ((hFj7.2 _ (SC_f (by omega))).trans eb) rfl ?_
          refine P_iload_n d_CM_likeness_68 rfl ?_
          refine P_aald (j := a2N) (q := b + 1 + 27 + 6 * a2N) d_CM_likeness_69 (hIj7.qs hb) rfl (ix_nI (by omega)) (by omega) (pq_at (by omega)) ?_
          refine P_iload d_CM_likeness_70 rfl ?_
          refine P_aload_n d_CM_likeness_72 rfl ?_
          refine P_getf (i := 8) d_CM_likeness_73 ok_CM (by decide) L_CM_65 ((hFj7.2 _ (SC_f (by omega))).trans e0) rfl ?_
          refine P_callV (M := M_CM_likeness) (pc := 76) (as := [.ref (b + 1 + 27 + 6 * a1N), .ref (b + 1 + 27 + 6 * a2N), .int (nI j7), .ref 449]) (b := 155) d_CM_likeness_76 co_Maker_between ok_Maker (hIj7.mk) L_CM_184 im_Maker_between se_Maker_between (s_Maker_between hG hIj7 (QX_pl hb (q := a1N) (by omega)) (QX_pl hb (q := a2N) (by omega)) j7 (by omega) (by decide) kc_449 (by omega) (by omega)) rfl ⟨by decide, by decide⟩ ⟨by decide, by decide⟩ (by exact le_b rfl) ?_ _ rfl
          rintro _ w9 ⟨rfl, hI9, hG9⟩
          have hF9 : Fr SC w w9 := Fr.tr hFj7 hG9
          show PW _ _ _ _ _ _ (79, [(0, .ref 0), (1, .int (nI a1N)), (2, .int (nI a2N)), (3, .int (nI a3N)), (4, .int j7_4), (5, .int j7_5), (6, .int (nI j7))], [], w9)
          refine P_aload_n d_CM_likeness_79 rfl ?_
          refine P_getf (i := 8) d_CM_likeness_80 ok_CM (by decide) L_CM_65 ((hF9.2 _ (SC_f (by omega))).trans e0) rfl ?_
          obtain ⟨f10, f10e⟩ := hI9.row (r := 449) (by decide) kc_449
          refine P_callS (M := M_CM_likeness) (pc := 83) (as := [.ref 449]) d_CM_likeness_83 co_Maps_kindOf L_CM_294 sm_Maps_kindOf (s_Maps_kindOf f10e) rfl ⟨by decide, by decide⟩ ⟨by decide, by decide⟩ (by exact le_b rfl) ?_ _ rfl
          rintro _ u ⟨⟨v11, rfl⟩, eu⟩
          subst u
          show PW _ _ _ _ _ _ (86, [(0, .ref 0), (1, .int (nI a1N)), (2, .int (nI a2N)), (3, .int (nI a3N)), (4, .int j7_4), (5, .int j7_5), (6, .int (nI j7))], [.int v11], w9)
          refine P_istore d_CM_likeness_86 (by decide) rfl ?_
          refine P_iload d_CM_likeness_88 rfl ?_
          refine P_iload d_CM_likeness_90 rfl ?_
          refine P_icmp_ge 103 d_CM_likeness_92 (by decide) (fun c12 => ?_) (fun c12 => ?_)
          · refine P_iinc (v := nI (j7 + 1)) d_CM_likeness_103 (by decide) rfl (nI_add j7 1) rfl ?_
            refine P_goto 41 d_CM_likeness_106 (by decide) ?_
            show PW _ _ _ _ _ _ (41, [(0, .ref 0), (1, .int (nI a1N)), (2, .int (nI a2N)), (3, .int (nI a3N)), (4, .int j7_4), (5, .int j7_5), (6, .int (nI (j7 + 1))), (7, .int v11)], [], w9)
            refine PW.drop (lv' := [(0, .ref 0), (1, .int (nI a1N)), (2, .int (nI a2N)), (3, .int (nI a3N)), (4, .int j7_4), (5, .int j7_5), (6, .int (nI (j7 + 1)))]) (by simp) ?_
            exact kkj7 (j7_4, j7_5, w9) ⟨hI9, hF9⟩
          · refine P_iload d_CM_likeness_95 rfl ?_
            refine P_istore d_CM_likeness_97 (by decide) rfl ?_
            refine P_iload d_CM_likeness_99 rfl ?_
            refine P_istore d_CM_likeness_101 (by decide) rfl ?_
            refine P_iinc (v := nI (j7 + 1)) d_CM_likeness_103 (by decide) rfl (nI_add j7 1) rfl ?_
            refine P_goto 41 d_CM_likeness_106 (by decide) ?_
            show PW _ _ _ _ _ _ (41, [(0, .ref 0), (1, .int (nI a1N)), (2, .int (nI a2N)), (3, .int (nI a3N)), (4, .int v11), (5, .int (nI j7)), (6, .int (nI (j7 + 1))), (7, .int v11)], [], w9)
            refine PW.drop (lv' := [(0, .ref 0), (1, .int (nI a1N)), (2, .int (nI a2N)), (3, .int (nI a3N)), (4, .int v11), (5, .int (nI j7)), (6, .int (nI (j7 + 1)))]) (by simp) ?_
            exact kkj7 (v11, nI j7, w9) ⟨hI9, hF9⟩
      · refine P_iconst (v := (-1)) d_CM_likeness_29 (by decide) ?_
        exact P_iret d_CM_likeness_30 rfl (le_b rfl) (le_b rfl) ⟨⟨_, rfl⟩, hI, Fr.rf⟩
theorem s_CM_hits {G : pG} {w : pW} (hG : GO G) (hI : I w) (a1 : Int32) (a2 : Int32) (a3 : Int32) : PM G M_CM_hits 5 0 0 [.ref 0, .int a1, .int a2, .int a3] w (fun r w' => (∃ v, r = some (.int v)) ∧ I w' ∧ Fr SC w w') := by
  refine PM_of pn_CM_hits (le_b rfl) ?_
  show PW _ _ _ _ _ _ (0, [(0, .ref 0), (1, .int a1), (2, .int a2), (3, .int a3)], [], w)
  obtain ⟨b, hb, e0⟩ := hI.cm
  obtain ⟨hb1, hb2⟩ := pl_rng hb
  obtain ⟨lc, qc, mc, pc, eb, hlc, hqc, hmc, hpc⟩ := hI.pl hb
  refine P_aload_n d_CM_hits_0 rfl ?_
  refine P_getf (i := 0) d_CM_hits_1 ok_CM (by decide) L_CM_12 e0 rfl ?_
  refine P_iload_n d_CM_hits_4 rfl ?_
  refine P_callV (M := M_CM_hits) (pc := 5) (as := [.int a1]) (b := b) d_CM_hits_5 co_Plane_hasMap ok_Plane eb L_CM_151 im_Plane_hasMap se_Plane_hasMap (s_Plane_hasMap eb hlc hqc hmc hpc a1) rfl ⟨by decide, by decide⟩ ⟨by decide, by decide⟩ (by exact le_b rfl) ?_ _ rfl
  rintro _ u ⟨rfl, eu⟩
  subst u
  show PW _ _ _ _ _ _ (8, [(0, .ref 0), (1, .int a1), (2, .int a2), (3, .int a3)], [.int (bi (inN mc a1))], w)
  refine P_if_eq 33 d_CM_hits_8 (by decide) (fun c2 => ?_) (fun c2 => ?_)
  · refine P_iconst (v := (-1)) d_CM_hits_33 (by decide) ?_
    exact P_iret d_CM_hits_34 rfl (le_b rfl) (le_b rfl) ⟨⟨_, rfl⟩, hI, Fr.rf⟩
  · obtain ⟨a1N, ha1N, rfl⟩ := inN_of (bi_1 c2) (by omega)
    refine P_aload_n d_CM_hits_11 rfl ?_
    refine P_getf (i := 0) d_CM_hits_12 ok_CM (by decide) L_CM_12 e0 rfl ?_
    refine P_iload_n d_CM_hits_15 rfl ?_
    refine P_callV (M := M_CM_hits) (pc := 16) (as := [.int a2]) (b := b) d_CM_hits_16 co_Plane_hasQuad ok_Plane eb L_CM_127 im_Plane_hasQuad se_Plane_hasQuad (s_Plane_hasQuad eb hlc hqc hmc hpc a2) rfl ⟨by decide, by decide⟩ ⟨by decide, by decide⟩ (by exact le_b rfl) ?_ _ rfl
    rintro _ u ⟨rfl, eu⟩
    subst u
    show PW _ _ _ _ _ _ (19, [(0, .ref 0), (1, .int (nI a1N)), (2, .int a2), (3, .int a3)], [.int (bi (inN qc a2))], w)
    refine P_if_eq 33 d_CM_hits_19 (by decide) (fun c4 => ?_) (fun c4 => ?_)
    · refine P_iconst (v := (-1)) d_CM_hits_33 (by decide) ?_
      exact P_iret d_CM_hits_34 rfl (le_b rfl) (le_b rfl) ⟨⟨_, rfl⟩, hI, Fr.rf⟩
    · obtain ⟨a2N, ha2N, rfl⟩ := inN_of (bi_1 c4) (by omega)
      refine P_aload_n d_CM_hits_22 rfl ?_
      refine P_getf (i := 0) d_CM_hits_23 ok_CM (by decide) L_CM_12 e0 rfl ?_
      refine P_iload_n d_CM_hits_26 rfl ?_
      refine P_callV (M := M_CM_hits) (pc := 27) (as := [.int a3]) (b := b) d_CM_hits_27 co_Plane_hasQuad ok_Plane eb L_CM_127 im_Plane_hasQuad se_Plane_hasQuad (s_Plane_hasQuad eb hlc hqc hmc hpc a3) rfl ⟨by decide, by decide⟩ ⟨by decide, by decide⟩ (by exact le_b rfl) ?_ _ rfl
      rintro _ u ⟨rfl, eu⟩
      subst u
      show PW _ _ _ _ _ _ (30, [(0, .ref 0), (1, .int (nI a1N)), (2, .int (nI a2N)), (3, .int a3)], [.int (bi (inN qc a3))], w)
      refine P_if_ne 35 d_CM_hits_30 (by decide) (fun c6 => ?_) (fun c6 => ?_)
      · obtain ⟨a3N, ha3N, rfl⟩ := inN_of (bi_1 c6) (by omega)
        refine P_aload_n d_CM_hits_35 rfl ?_
        refine P_iload_n d_CM_hits_36 rfl ?_
        refine P_iload_n d_CM_hits_37 rfl ?_
        refine P_iload_n d_CM_hits_38 rfl ?_
        refine P_callV (M := M_CM_hits) (pc := 39) (as := [.int (nI a1N), .int (nI a2N), .int (nI a3N)]) (b := 0) d_CM_hits_39 co_CM_cornersThatHit ok_CM e0 L_CM_412 im_CM_cornersThatHit se_CM_cornersThatHit (s_CM_cornersThatHit hG hI a1N (by omega) a2N (by omega) a3N (by omega)) rfl ⟨by decide, by decide⟩ ⟨by decide, by decide⟩ (by exact le_b rfl) ?_ _ rfl
        rintro _ w7 ⟨⟨v7, rfl⟩, hI7, hG7⟩
        have hF7 : Fr SC w w7 := Fr.tr Fr.rf hG7
        show PW _ _ _ _ _ _ (42, [(0, .ref 0), (1, .int (nI a1N)), (2, .int (nI a2N)), (3, .int (nI a3N))], [.int v7], w7)
        exact P_iret d_CM_hits_42 rfl (le_b rfl) (le_b rfl) ⟨⟨_, rfl⟩, hI7, hF7⟩
      · refine P_iconst (v := (-1)) d_CM_hits_33 (by decide) ?_
        exact P_iret d_CM_hits_34 rfl (le_b rfl) (le_b rfl) ⟨⟨_, rfl⟩, hI, Fr.rf⟩
theorem s_CM_goesTo {G : pG} {w : pW} (hG : GO G) (hI : I w) (a1 : Int32) (a2 : Int32) : PM G M_CM_goesTo 5 0 0 [.ref 0, .int a1, .int a2] w (fun r w' => (∃ v, r = some (.int v)) ∧ I w' ∧ Fr SC w w') := by
  refine PM_of pn_CM_goesTo (le_b rfl) ?_
  show PW _ _ _ _ _ _ (0, [(0, .ref 0), (1, .int a1), (2, .int a2)], [], w)
  obtain ⟨b, hb, e0⟩ := hI.cm
  obtain ⟨hb1, hb2⟩ := pl_rng hb
  obtain ⟨lc, qc, mc, pc, eb, hlc, hqc, hmc, hpc⟩ := hI.pl hb
  refine P_aload_n d_CM_goesTo_0 rfl ?_
  refine P_getf (i := 0) d_CM_goesTo_1 ok_CM (by decide) L_CM_12 e0 rfl ?_
  refine P_iload_n d_CM_goesTo_4 rfl ?_
  refine P_callV (M := M_CM_goesTo) (pc := 5) (as := [.int a1]) (b := b) d_CM_goesTo_5 co_Plane_hasMap ok_Plane eb L_CM_151 im_Plane_hasMap se_Plane_hasMap (s_Plane_hasMap eb hlc hqc hmc hpc a1) rfl ⟨by decide, by decide⟩ ⟨by decide, by decide⟩ (by exact le_b rfl) ?_ _ rfl
  rintro _ u ⟨rfl, eu⟩
  subst u
  show PW _ _ _ _ _ _ (8, [(0, .ref 0), (1, .int a1), (2, .int a2)], [.int (bi (inN mc a1))], w)
  refine P_if_eq 22 d_CM_goesTo_8 (by decide) (fun c2 => ?_) (fun c2 => ?_)
  · refine P_iconst (v := (-1)) d_CM_goesTo_22 (by decide) ?_
    exact P_iret d_CM_goesTo_23 rfl (le_b rfl) (le_b rfl) ⟨⟨_, rfl⟩, hI, Fr.rf⟩
  · obtain ⟨a1N, ha1N, rfl⟩ := inN_of (bi_1 c2) (by omega)
    refine P_aload_n d_CM_goesTo_11 rfl ?_
    refine P_getf (i := 0) d_CM_goesTo_12 ok_CM (by decide) L_CM_12 e0 rfl ?_
    refine P_iload_n d_CM_goesTo_15 rfl ?_
    refine P_callV (M := M_CM_goesTo) (pc := 16) (as := [.int a2]) (b := b) d_CM_goesTo_16 co_Plane_hasQuad ok_Plane eb L_CM_127 im_Plane_hasQuad se_Plane_hasQuad (s_Plane_hasQuad eb hlc hqc hmc hpc a2) rfl ⟨by decide, by decide⟩ ⟨by decide, by decide⟩ (by exact le_b rfl) ?_ _ rfl
    rintro _ u ⟨rfl, eu⟩
    subst u
    show PW _ _ _ _ _ _ (19, [(0, .ref 0), (1, .int (nI a1N)), (2, .int a2)], [.int (bi (inN qc a2))], w)
    refine P_if_ne 24 d_CM_goesTo_19 (by decide) (fun c4 => ?_) (fun c4 => ?_)
    · obtain ⟨a2N, ha2N, rfl⟩ := inN_of (bi_1 c4) (by omega)
      refine P_iconst (v := 0) d_CM_goesTo_24 (by decide) ?_
      refine P_istore_n d_CM_goesTo_25 (by decide) rfl ?_
      refine P_iconst (v := 0) d_CM_goesTo_26 (by decide) ?_
      refine P_istore d_CM_goesTo_27 (by decide) rfl ?_
      refine PW_ind (σ := Int32 × pW) (qc) (fun jj ss => I (ss.2) ∧ Fr SC w (ss.2)) (fun jj ss => (29, [(0, .ref 0), (1, .int (nI a1N)), (2, .int (nI a2N)), (3, .int ss.1), (4, .int (nI jj))], [], ss.2)) ?_ ?_ 0 (0, w) (by omega) ⟨hI, Fr.rf⟩
      · rintro ⟨j5_3, uj5⟩ ⟨hIj5, hFj5⟩
        show PW _ _ _ _ _ _ (29, [(0, .ref 0), (1, .int (nI a1N)), (2, .int (nI a2N)), (3, .int j5_3), (4, .int (nI qc))], [], uj5)
        refine P_iload d_CM_goesTo_29 rfl ?_
        refine P_aload_n d_CM_goesTo_31 rfl ?_
        refine P_getf (i := 0) d_CM_goesTo_32 ok_CM (by decide) L_CM_12 ((hFj5.2 _ (SC_f (by omega))).trans e0) rfl ?_
        refine P_getfN (i := 4) d_CM_goesTo_35 ok_Plane (by decide) L_CM_415 ((hFj5.2 _ (SC_f (by omega))).trans eb) rfl ?_
        refine P_icmp_ge 62 d_CM_goesTo_38 (by decide) (fun _ => ?_) (fun h => absurd (Int32.le_refl _) h)
        refine P_iload_n d_CM_goesTo_62 rfl ?_
        exact P_iret d_CM_goesTo_63 rfl (le_b rfl) (le_b rfl) ⟨⟨_, rfl⟩, hIj5, hFj5⟩
      · rintro j5 ⟨j5_3, uj5⟩ hj5 ⟨hIj5, hFj5⟩ kkj5
        show PW _ _ _ _ _ _ (29, [(0, .ref 0), (1, .int (nI a1N)), (2, .int (nI a2N)), (3, .int j5_3), (4, .int (nI j5))], [], uj5)
        refine P_iload d_CM_goesTo_29 rfl ?_
        refine P_aload_n d_CM_goesTo_31 rfl ?_
        refine P_getf (i := 0) d_CM_goesTo_32 ok_CM (by decide) L_CM_12 ((hFj5.2 _ (SC_f (by omega))).trans e0) rfl ?_
        refine P_getfN (i := 4) d_CM_goesTo_35 ok_Plane (by decide) L_CM_415 ((hFj5.2 _ (SC_f (by omega))).trans eb) rfl ?_
        refine P_icmp_ge 62 d_CM_goesTo_38 (by decide) (fun h => absurd h (nI_geF (a := j5) (b := qc) (by omega) (by omega))) (fun _ => ?_)
        refine P_aload_n d_CM_goesTo_41 rfl ?_
        refine P_iload_n d_CM_goesTo_42 rfl ?_
        refine P_iload_n d_CM_goesTo_43 rfl ?_
        refine P_iload d_CM_goesTo_44 rfl ?_
        refine P_callV (M := M_CM_goesTo) (pc := 46) (as := [.int (nI a1N), .int (nI a2N), .int (nI j5)]) (b := 0) d_CM_goesTo_46 co_CM_cornersThatHit ok_CM ((hFj5.2 _ (SC_f (by omega))).trans e0) L_CM_412 im_CM_cornersThatHit se_CM_cornersThatHit (s_CM_cornersThatHit hG hIj5 a1N (by omega) a2N (by omega) j5 (by omega)) rfl ⟨by decide, by decide⟩ ⟨by decide, by decide⟩ (by exact le_b rfl) ?_ _ rfl
        rintro _ w6 ⟨⟨v6, rfl⟩, hI6, hG6⟩
        have hF6 : Fr SC w w6 := Fr.tr hFj5 hG6
        show PW _ _ _ _ _ _ (49, [(0, .ref 0), (1, .int (nI a1N)), (2, .int (nI a2N)), (3, .int j5_3), (4, .int (nI j5))], [.int v6], w6)
        refine P_iconst (v := 4) d_CM_goesTo_49 (by decide) ?_
        refine P_icmp_ne 56 d_CM_goesTo_50 (by decide) (fun c7 => ?_) (fun c7 => ?_)
        · refine P_iinc (v := nI (j5 + 1)) d_CM_goesTo_56 (by decide) rfl (nI_add j5 1) rfl ?_
          refine P_goto 29 d_CM_goesTo_59 (by decide) ?_
          exact kkj5 (j5_3, w6) ⟨hI6, hF6⟩
        · refine P_iinc (v := j5_3 + Int32.ofInt 1) d_CM_goesTo_53 (by decide) rfl rfl rfl ?_
          show PW _ _ _ _ _ _ (56, [(0, .ref 0), (1, .int (nI a1N)), (2, .int (nI a2N)), (3, .int (j5_3 + Int32.ofInt 1)), (4, .int (nI j5))], [], w6)
          refine P_iinc (v := nI (j5 + 1)) d_CM_goesTo_56 (by decide) rfl (nI_add j5 1) rfl ?_
          refine P_goto 29 d_CM_goesTo_59 (by decide) ?_
          exact kkj5 (j5_3 + Int32.ofInt 1, w6) ⟨hI6, hF6⟩
    · refine P_iconst (v := (-1)) d_CM_goesTo_22 (by decide) ?_
      exact P_iret d_CM_goesTo_23 rfl (le_b rfl) (le_b rfl) ⟨⟨_, rfl⟩, hI, Fr.rf⟩
theorem s_CM_farthest {G : pG} {w : pW} (hG : GO G) (hI : I w) (a1 : Int32) : PM G M_CM_farthest 4 0 0 [.ref 0, .int a1] w (fun r w' => (∃ v, r = some (.long v)) ∧ I w' ∧ Fr SC w w') := by
  refine PM_of pn_CM_farthest (le_b rfl) ?_
  show PW _ _ _ _ _ _ (0, [(0, .ref 0), (1, .int a1)], [], w)
  obtain ⟨b, hb, e0⟩ := hI.cm
  obtain ⟨hb1, hb2⟩ := pl_rng hb
  obtain ⟨lc, qc, mc, pc, eb, hlc, hqc, hmc, hpc⟩ := hI.pl hb
  refine P_aload_n d_CM_farthest_0 rfl ?_
  refine P_getf (i := 0) d_CM_farthest_1 ok_CM (by decide) L_CM_12 e0 rfl ?_
  refine P_iload_n d_CM_farthest_4 rfl ?_
  refine P_callV (M := M_CM_farthest) (pc := 5) (as := [.int a1]) (b := b) d_CM_farthest_5 co_Plane_hasMap ok_Plane eb L_CM_151 im_Plane_hasMap se_Plane_hasMap (s_Plane_hasMap eb hlc hqc hmc hpc a1) rfl ⟨by decide, by decide⟩ ⟨by decide, by decide⟩ (by exact le_b rfl) ?_ _ rfl
  rintro _ u ⟨rfl, eu⟩
  subst u
  show PW _ _ _ _ _ _ (8, [(0, .ref 0), (1, .int a1)], [.int (bi (inN mc a1))], w)
  refine P_if_ne 15 d_CM_farthest_8 (by decide) (fun c2 => ?_) (fun c2 => ?_)
  · obtain ⟨a1N, ha1N, rfl⟩ := inN_of (bi_1 c2) (by omega)
    refine P_lconst (v := 0) d_CM_farthest_15 (by decide) ?_
    refine P_lstore_n d_CM_farthest_16 (by decide) rfl ?_
    refine P_iconst (v := 0) d_CM_farthest_17 (by decide) ?_
    refine P_istore d_CM_farthest_18 (by decide) rfl ?_
    refine PW_ind (σ := Int64 × pW) (pc) (fun jj ss => I (ss.2) ∧ Fr SC w (ss.2)) (fun jj ss => (20, [(0, .ref 0), (1, .int (nI a1N)), (2, .long ss.1), (4, .int (nI jj))], [], ss.2)) ?_ ?_ 0 (0, w) (by omega) ⟨hI, Fr.rf⟩
    · rintro ⟨j3_2, uj3⟩ ⟨hIj3, hFj3⟩
      show PW _ _ _ _ _ _ (20, [(0, .ref 0), (1, .int (nI a1N)), (2, .long j3_2), (4, .int (nI pc))], [], uj3)
      refine P_iload d_CM_farthest_20 rfl ?_
      refine P_aload_n d_CM_farthest_22 rfl ?_
      refine P_getf (i := 0) d_CM_farthest_23 ok_CM (by decide) L_CM_12 ((hFj3.2 _ (SC_f (by omega))).trans e0) rfl ?_
      refine P_getfN (i := 6) d_CM_farthest_26 ok_Plane (by decide) L_CM_232 ((hFj3.2 _ (SC_f (by omega))).trans eb) rfl ?_
      refine P_icmp_ge 76 d_CM_farthest_29 (by decide) (fun _ => ?_) (fun h => absurd (Int32.le_refl _) h)
      refine P_lload_n d_CM_farthest_76 rfl ?_
      exact P_lret d_CM_farthest_77 rfl (le_b rfl) (le_b rfl) ⟨⟨_, rfl⟩, hIj3, hFj3⟩
    · rintro j3 ⟨j3_2, uj3⟩ hj3 ⟨hIj3, hFj3⟩ kkj3
      show PW _ _ _ _ _ _ (20, [(0, .ref 0), (1, .int (nI a1N)), (2, .long j3_2), (4, .int (nI j3))], [], uj3)
      refine P_iload d_CM_farthest_20 rfl ?_
      refine P_aload_n d_CM_farthest_22 rfl ?_
      refine P_getf (i := 0) d_CM_farthest_23 ok_CM (by decide) L_CM_12 ((hFj3.2 _ (SC_f (by omega))).trans e0) rfl ?_
      refine P_getfN (i := 6) d_CM_farthest_26 ok_Plane (by decide) L_CM_232 ((hFj3.2 _ (SC_f (by omega))).trans eb) rfl ?_
      refine P_icmp_ge 76 d_CM_farthest_29 (by decide) (fun h => absurd h (nI_geF (a := j3) (b := pc) (by omega) (by omega))) (fun _ => ?_)
      refine P_aload_n d_CM_farthest_32 rfl ?_
      refine P_getf (i := 0) d_CM_farthest_33 ok_CM (by decide) L_CM_12 ((hFj3.2 _ (SC_f (by omega))).trans e0) rfl ?_
      refine P_getfN (i := 1) d_CM_farthest_36 ok_Plane (by decide) L_CM_157 ((hFj3.2 _ (SC_f (by omega))).trans eb) rfl ?_
      refine P_iload_n d_CM_farthest_39 rfl ?_
      refine P_aald (j := a1N) (q := b + 2 + 1 + a1N) d_CM_farthest_40 (hIj3.ms hb) rfl (ix_nI (by omega)) (by omega) (rows_at (by omega)) ?_
      refine P_aload_n d_CM_farthest_41 rfl ?_
      refine P_getf (i := 0) d_CM_farthest_42 ok_CM (by decide) L_CM_12 ((hFj3.2 _ (SC_f (by omega))).trans e0) rfl ?_
      refine P_getfN (i := 2) d_CM_farthest_45 ok_Plane (by decide) L_CM_163 ((hFj3.2 _ (SC_f (by omega))).trans eb) rfl ?_
      refine P_iload d_CM_farthest_48 rfl ?_
      refine P_aald (j := j3) (q := b + 19 + 1 + j3) d_CM_farthest_50 (hIj3.ps hb) rfl (ix_nI (by omega)) (by omega) (rows_at (by omega)) ?_
      refine P_aload_n d_CM_farthest_51 rfl ?_
      refine P_getf (i := 12) d_CM_farthest_52 ok_CM (by decide) L_CM_78 ((hFj3.2 _ (SC_f (by omega))).trans e0) rfl ?_
      obtain ⟨f4, f4e⟩ := hIj3.row (r := b + 2 + 1 + a1N) (by omega) (Kc_m hb (by omega))
      obtain ⟨f5, f5e⟩ := hIj3.row (r := b + 19 + 1 + j3) (by omega) (Kc_p hb (by omega))
      obtain ⟨f6, f6e⟩ := hIj3.row (r := 453) (by decide) kc_453
      refine P_callS (M := M_CM_farthest) (pc := 55) (as := [.ref (b + 2 + 1 + a1N), .ref (b + 19 + 1 + j3), .ref 453]) d_CM_farthest_55 co_Maps_apply L_CM_248 sm_Maps_apply (s_Maps_apply f4e f5e f6e (by decide) (by omega) (by omega)) rfl ⟨by decide, by decide⟩ ⟨by decide, by decide⟩ (by exact le_b rfl) ?_ _ rfl
      rintro _ w7 ⟨rfl, g7, e7⟩
      have s7 := w_s e7
      have hI7 : I w7 := hIj3.setL e7 kc_453
      have hF7 : Fr SC w w7 := Fr.set hFj3 e7 (SC_t (by omega))
      show PW _ _ _ _ _ _ (58, [(0, .ref 0), (1, .int (nI a1N)), (2, .long j3_2), (4, .int (nI j3))], [], w7)
      refine P_lload_n d_CM_farthest_58 rfl ?_
      refine P_aload_n d_CM_farthest_59 rfl ?_
      refine P_getf (i := 12) d_CM_farthest_60 ok_CM (by decide) L_CM_78 ((hF7.2 _ (SC_f (by omega))).trans e0) rfl ?_
      refine P_callS (M := M_CM_farthest) (pc := 63) (as := [.ref 453]) d_CM_farthest_63 co_Rows_greatest L_CM_297 sm_Rows_greatest (s_Rows_greatest (by decide) (by decide) s7) rfl ⟨by decide, by decide⟩ ⟨by decide, by decide⟩ (by exact le_b rfl) ?_ _ rfl
      rintro _ u ⟨⟨v8, rfl⟩, eu⟩
      subst u
      show PW _ _ _ _ _ _ (66, [(0, .ref 0), (1, .int (nI a1N)), (2, .long j3_2), (4, .int (nI j3))], [.long v8, .long j3_2], w7)
      refine P_mmaxlZ d_CM_farthest_66 L_CM_418 st_max in_Math cd_max ⟨by decide, by decide, by decide, by decide⟩ (by exact le_b rfl) (fun zz9 => ?_)
      show PW _ _ _ _ _ _ (69, [(0, .ref 0), (1, .int (nI a1N)), (2, .long j3_2), (4, .int (nI j3))], [.long zz9], w7)
      refine P_lstore_n d_CM_farthest_69 (by decide) rfl ?_
      refine P_iinc (v := nI (j3 + 1)) d_CM_farthest_70 (by decide) rfl (nI_add j3 1) rfl ?_
      refine P_goto 20 d_CM_farthest_73 (by decide) ?_
      exact kkj3 (zz9, w7) ⟨hI7, hF7⟩
  · refine P_ldc2 (v := (-9223372036854775808)) d_CM_farthest_11 L_CM_270 ?_
    exact P_lret d_CM_farthest_14 rfl (le_b rfl) (le_b rfl) ⟨⟨_, rfl⟩, hI, Fr.rf⟩
theorem s_CM_biggest {G : pG} {w : pW} (hG : GO G) (hI : I w) (a1 : Int32) : PM G M_CM_biggest 2 0 0 [.ref 0, .int a1] w (fun r w' => (∃ v, r = some (.int v)) ∧ I w' ∧ Fr SC w w') := by
  refine PM_of pn_CM_biggest (le_b rfl) ?_
  show PW _ _ _ _ _ _ (0, [(0, .ref 0), (1, .int a1)], [], w)
  obtain ⟨b, hb, e0⟩ := hI.cm
  obtain ⟨hb1, hb2⟩ := pl_rng hb
  obtain ⟨lc, qc, mc, pc, eb, hlc, hqc, hmc, hpc⟩ := hI.pl hb
  refine P_iload_n d_CM_biggest_0 rfl ?_
  refine P_callS (M := M_CM_biggest) (pc := 1) (as := [.int a1]) d_CM_biggest_1 co_CM_isPart L_CM_136 sm_CM_isPart (s_CM_isPart a1) rfl ⟨by decide, by decide⟩ ⟨by decide, by decide⟩ (by exact le_b rfl) ?_ _ rfl
  rintro _ u ⟨rfl, eu⟩
  subst u
  show PW _ _ _ _ _ _ (4, [(0, .ref 0), (1, .int a1)], [.int (bi (inN 2 a1))], w)
  refine P_if_ne 9 d_CM_biggest_4 (by decide) (fun c2 => ?_) (fun c2 => ?_)
  · obtain ⟨a1N, ha1N, rfl⟩ := inN_of (bi_1 c2) (by omega)
    refine P_bipush (v := (-2)) d_CM_biggest_9 (by decide) ?_
    refine P_istore_n d_CM_biggest_11 (by decide) rfl ?_
    refine P_lconst (v := 0) d_CM_biggest_12 (by decide) ?_
    refine P_lstore_n d_CM_biggest_13 (by decide) rfl ?_
    refine P_iconst (v := 0) d_CM_biggest_14 (by decide) ?_
    refine P_istore d_CM_biggest_15 (by decide) rfl ?_
    refine PW_ind (σ := Int32 × Int64 × pW) (mc) (fun jj ss => I (ss.2.2) ∧ Fr SC w (ss.2.2)) (fun jj ss => (17, [(0, .ref 0), (1, .int (nI a1N)), (2, .int ss.1), (3, .long ss.2.1), (5, .int (nI jj))], [], ss.2.2)) ?_ ?_ 0 ((-2), 0, w) (by omega) ⟨hI, Fr.rf⟩
    · rintro ⟨j3_2, j3_3, uj3⟩ ⟨hIj3, hFj3⟩
      show PW _ _ _ _ _ _ (17, [(0, .ref 0), (1, .int (nI a1N)), (2, .int j3_2), (3, .long j3_3), (5, .int (nI mc))], [], uj3)
      refine P_iload d_CM_biggest_17 rfl ?_
      refine P_aload_n d_CM_biggest_19 rfl ?_
      refine P_getf (i := 0) d_CM_biggest_20 ok_CM (by decide) L_CM_12 ((hFj3.2 _ (SC_f (by omega))).trans e0) rfl ?_
      refine P_getfN (i := 5) d_CM_biggest_23 ok_Plane (by decide) L_CM_225 ((hFj3.2 _ (SC_f (by omega))).trans eb) rfl ?_
      refine P_icmp_ge 82 d_CM_biggest_26 (by decide) (fun _ => ?_) (fun h => absurd (Int32.le_refl _) h)
      refine P_iload_n d_CM_biggest_82 rfl ?_
      exact P_iret d_CM_biggest_83 rfl (le_b rfl) (le_b rfl) ⟨⟨_, rfl⟩, hIj3, hFj3⟩
    · rintro j3 ⟨j3_2, j3_3, uj3⟩ hj3 ⟨hIj3, hFj3⟩ kkj3
      show PW _ _ _ _ _ _ (17, [(0, .ref 0), (1, .int (nI a1N)), (2, .int j3_2), (3, .long j3_3), (5, .int (nI j3))], [], uj3)
      refine P_iload d_CM_biggest_17 rfl ?_
      refine P_aload_n d_CM_biggest_19 rfl ?_
      refine P_getf (i := 0) d_CM_biggest_20 ok_CM (by decide) L_CM_12 ((hFj3.2 _ (SC_f (by omega))).trans e0) rfl ?_
      refine P_getfN (i := 5) d_CM_biggest_23 ok_Plane (by decide) L_CM_225 ((hFj3.2 _ (SC_f (by omega))).trans eb) rfl ?_
      refine P_icmp_ge 82 d_CM_biggest_26 (by decide) (fun h => absurd h (nI_geF (a := j3) (b := mc) (by omega) (by omega))) (fun _ => ?_)
      refine P_aload_n d_CM_biggest_29 rfl ?_
      refine P_getf (i := 0) d_CM_biggest_30 ok_CM (by decide) L_CM_12 ((hFj3.2 _ (SC_f (by omega))).trans e0) rfl ?_
      refine P_getfN (i := 1) d_CM_biggest_33 ok_Plane (by decide) L_CM_157 ((hFj3.2 _ (SC_f (by omega))).trans eb) rfl ?_
      refine P_iload d_CM_biggest_36 rfl ?_
      refine P_aald (j := j3) (q := b + 2 + 1 + j3) d_CM_biggest_38 (hIj3.ms hb) rfl (ix_nI (by omega)) (by omega) (rows_at (by omega)) ?_
      obtain ⟨f4, f4e⟩ := hIj3.row (r := b + 2 + 1 + j3) (by omega) (Kc_m hb (by omega))
      refine P_callS (M := M_CM_biggest) (pc := 39) (as := [.ref (b + 2 + 1 + j3)]) d_CM_biggest_39 co_Rows_greatest L_CM_297 sm_Rows_greatest (s_Rows_greatest (by decide) (by decide) f4e) rfl ⟨by decide, by decide⟩ ⟨by decide, by decide⟩ (by exact le_b rfl) ?_ _ rfl
      rintro _ u ⟨⟨v5, rfl⟩, eu⟩
      subst u
      show PW _ _ _ _ _ _ (42, [(0, .ref 0), (1, .int (nI a1N)), (2, .int j3_2), (3, .long j3_3), (5, .int (nI j3))], [.long v5], uj3)
      refine P_lstore d_CM_biggest_42 (by decide) rfl ?_
      refine P_iload d_CM_biggest_44 rfl ?_
      refine P_if_eq 70 d_CM_biggest_46 (by decide) (fun c6 => ?_) (fun c6 => ?_)
      · have ic6 : j3 = 0 := (nI_eq (by omega) (by omega)).mp c6
        refine P_iload d_CM_biggest_70 rfl ?_
        refine P_istore_n d_CM_biggest_72 (by decide) rfl ?_
        refine P_lload d_CM_biggest_73 rfl ?_
        refine P_lstore_n d_CM_biggest_75 (by decide) rfl ?_
        refine P_iinc (v := nI (j3 + 1)) d_CM_biggest_76 (by decide) rfl (nI_add j3 1) rfl ?_
        refine P_goto 17 d_CM_biggest_79 (by decide) ?_
        show PW _ _ _ _ _ _ (17, [(0, .ref 0), (1, .int (nI a1N)), (2, .int (nI j3)), (3, .long v5), (5, .int (nI (j3 + 1))), (6, .long v5)], [], uj3)
        refine PW.drop (lv' := [(0, .ref 0), (1, .int (nI a1N)), (2, .int (nI j3)), (3, .long v5), (5, .int (nI (j3 + 1)))]) (by simp) ?_
        exact kkj3 (nI j3, v5, uj3) ⟨hIj3, hFj3⟩
      · have ic6 : j3 ≠ 0 := fun q => c6 (congrArg nI q)
        refine P_iload_n d_CM_biggest_49 rfl ?_
        refine P_if_ne 63 d_CM_biggest_50 (by decide) (fun c7 => ?_) (fun c7 => ?_)
        · have ic7 : a1N ≠ 0 := fun q => c7 (congrArg nI q)
          refine P_lload d_CM_biggest_63 rfl ?_
          refine P_lload_n d_CM_biggest_65 rfl ?_
          refine P_lcmp d_CM_biggest_66 ?_
          refine P_if_ge 76 d_CM_biggest_67 (by decide) (fun c8 => ?_) (fun c8 => ?_)
          · refine P_iinc (v := nI (j3 + 1)) d_CM_biggest_76 (by decide) rfl (nI_add j3 1) rfl ?_
            refine P_goto 17 d_CM_biggest_79 (by decide) ?_
            show PW _ _ _ _ _ _ (17, [(0, .ref 0), (1, .int (nI a1N)), (2, .int j3_2), (3, .long j3_3), (5, .int (nI (j3 + 1))), (6, .long v5)], [], uj3)
            refine PW.drop (lv' := [(0, .ref 0), (1, .int (nI a1N)), (2, .int j3_2), (3, .long j3_3), (5, .int (nI (j3 + 1)))]) (by simp) ?_
            exact kkj3 (j3_2, j3_3, uj3) ⟨hIj3, hFj3⟩
          · refine P_iload d_CM_biggest_70 rfl ?_
            refine P_istore_n d_CM_biggest_72 (by decide) rfl ?_
            refine P_lload d_CM_biggest_73 rfl ?_
            refine P_lstore_n d_CM_biggest_75 (by decide) rfl ?_
            refine P_iinc (v := nI (j3 + 1)) d_CM_biggest_76 (by decide) rfl (nI_add j3 1) rfl ?_
            refine P_goto 17 d_CM_biggest_79 (by decide) ?_
            show PW _ _ _ _ _ _ (17, [(0, .ref 0), (1, .int (nI a1N)), (2, .int (nI j3)), (3, .long v5), (5, .int (nI (j3 + 1))), (6, .long v5)], [], uj3)
            refine PW.drop (lv' := [(0, .ref 0), (1, .int (nI a1N)), (2, .int (nI j3)), (3, .long v5), (5, .int (nI (j3 + 1)))]) (by simp) ?_
            exact kkj3 (nI j3, v5, uj3) ⟨hIj3, hFj3⟩
        · have ic7 : a1N = 0 := (nI_eq (by omega) (by omega)).mp c7
          refine P_lload d_CM_biggest_53 rfl ?_
          refine P_lload_n d_CM_biggest_55 rfl ?_
          refine P_lcmp d_CM_biggest_56 ?_
          refine P_if_le 76 d_CM_biggest_57 (by decide) (fun c9 => ?_) (fun c9 => ?_)
          · refine P_iinc (v := nI (j3 + 1)) d_CM_biggest_76 (by decide) rfl (nI_add j3 1) rfl ?_
            refine P_goto 17 d_CM_biggest_79 (by decide) ?_
            show PW _ _ _ _ _ _ (17, [(0, .ref 0), (1, .int (nI a1N)), (2, .int j3_2), (3, .long j3_3), (5, .int (nI (j3 + 1))), (6, .long v5)], [], uj3)
            refine PW.drop (lv' := [(0, .ref 0), (1, .int (nI a1N)), (2, .int j3_2), (3, .long j3_3), (5, .int (nI (j3 + 1)))]) (by simp) ?_
            exact kkj3 (j3_2, j3_3, uj3) ⟨hIj3, hFj3⟩
          · refine P_goto 70 d_CM_biggest_60 (by decide) ?_
            refine P_iload d_CM_biggest_70 rfl ?_
            refine P_istore_n d_CM_biggest_72 (by decide) rfl ?_
            refine P_lload d_CM_biggest_73 rfl ?_
            refine P_lstore_n d_CM_biggest_75 (by decide) rfl ?_
            refine P_iinc (v := nI (j3 + 1)) d_CM_biggest_76 (by decide) rfl (nI_add j3 1) rfl ?_
            refine P_goto 17 d_CM_biggest_79 (by decide) ?_
            show PW _ _ _ _ _ _ (17, [(0, .ref 0), (1, .int (nI a1N)), (2, .int (nI j3)), (3, .long v5), (5, .int (nI (j3 + 1))), (6, .long v5)], [], uj3)
            refine PW.drop (lv' := [(0, .ref 0), (1, .int (nI a1N)), (2, .int (nI j3)), (3, .long v5), (5, .int (nI (j3 + 1)))]) (by simp) ?_
            exact kkj3 (nI j3, v5, uj3) ⟨hIj3, hFj3⟩
  · refine P_iconst (v := (-1)) d_CM_biggest_7 (by decide) ?_
    exact P_iret d_CM_biggest_8 rfl (le_b rfl) (le_b rfl) ⟨⟨_, rfl⟩, hI, Fr.rf⟩
theorem s_CM_kinds {G : pG} {w : pW} (hG : GO G) (hI : I w) (a1 : Int32) : PM G M_CM_kinds 1 0 0 [.ref 0, .int a1] w (fun r w' => (∃ v, r = some (.int v)) ∧ I w' ∧ Fr SC w w') := by
  refine PM_of pn_CM_kinds (le_b rfl) ?_
  show PW _ _ _ _ _ _ (0, [(0, .ref 0), (1, .int a1)], [], w)
  obtain ⟨b, hb, e0⟩ := hI.cm
  obtain ⟨hb1, hb2⟩ := pl_rng hb
  obtain ⟨lc, qc, mc, pc, eb, hlc, hqc, hmc, hpc⟩ := hI.pl hb
  refine P_iload_n d_CM_kinds_0 rfl ?_
  refine P_callS (M := M_CM_kinds) (pc := 1) (as := [.int a1]) d_CM_kinds_1 co_CM_isKind L_CM_385 sm_CM_isKind (s_CM_isKind a1) rfl ⟨by decide, by decide⟩ ⟨by decide, by decide⟩ (by exact le_b rfl) ?_ _ rfl
  rintro _ u ⟨rfl, eu⟩
  subst u
  show PW _ _ _ _ _ _ (4, [(0, .ref 0), (1, .int a1)], [.int (bi (inN 6 a1))], w)
  refine P_if_ne 9 d_CM_kinds_4 (by decide) (fun c2 => ?_) (fun c2 => ?_)
  · obtain ⟨a1N, ha1N, rfl⟩ := inN_of (bi_1 c2) (by omega)
    refine P_iconst (v := 0) d_CM_kinds_9 (by decide) ?_
    refine P_istore_n d_CM_kinds_10 (by decide) rfl ?_
    refine P_iconst (v := 0) d_CM_kinds_11 (by decide) ?_
    refine P_istore_n d_CM_kinds_12 (by decide) rfl ?_
    refine PW_ind (σ := Int32 × pW) (mc) (fun jj ss => I (ss.2) ∧ Fr SC w (ss.2)) (fun jj ss => (13, [(0, .ref 0), (1, .int (nI a1N)), (2, .int ss.1), (3, .int (nI jj))], [], ss.2)) ?_ ?_ 0 (0, w) (by omega) ⟨hI, Fr.rf⟩
    · rintro ⟨j3_2, uj3⟩ ⟨hIj3, hFj3⟩
      show PW _ _ _ _ _ _ (13, [(0, .ref 0), (1, .int (nI a1N)), (2, .int j3_2), (3, .int (nI mc))], [], uj3)
      refine P_iload_n d_CM_kinds_13 rfl ?_
      refine P_aload_n d_CM_kinds_14 rfl ?_
      refine P_getf (i := 0) d_CM_kinds_15 ok_CM (by decide) L_CM_12 ((hFj3.2 _ (SC_f (by omega))).trans e0) rfl ?_
      refine P_getfN (i := 5) d_CM_kinds_18 ok_Plane (by decide) L_CM_225 ((hFj3.2 _ (SC_f (by omega))).trans eb) rfl ?_
      refine P_icmp_ge 49 d_CM_kinds_21 (by decide) (fun _ => ?_) (fun h => absurd (Int32.le_refl _) h)
      refine P_iload_n d_CM_kinds_49 rfl ?_
      exact P_iret d_CM_kinds_50 rfl (le_b rfl) (le_b rfl) ⟨⟨_, rfl⟩, hIj3, hFj3⟩
    · rintro j3 ⟨j3_2, uj3⟩ hj3 ⟨hIj3, hFj3⟩ kkj3
      show PW _ _ _ _ _ _ (13, [(0, .ref 0), (1, .int (nI a1N)), (2, .int j3_2), (3, .int (nI j3))], [], uj3)
      refine P_iload_n d_CM_kinds_13 rfl ?_
      refine P_aload_n d_CM_kinds_14 rfl ?_
      refine P_getf (i := 0) d_CM_kinds_15 ok_CM (by decide) L_CM_12 ((hFj3.2 _ (SC_f (by omega))).trans e0) rfl ?_
      refine P_getfN (i := 5) d_CM_kinds_18 ok_Plane (by decide) L_CM_225 ((hFj3.2 _ (SC_f (by omega))).trans eb) rfl ?_
      refine P_icmp_ge 49 d_CM_kinds_21 (by decide) (fun h => absurd h (nI_geF (a := j3) (b := mc) (by omega) (by omega))) (fun _ => ?_)
      refine P_aload_n d_CM_kinds_24 rfl ?_
      refine P_getf (i := 0) d_CM_kinds_25 ok_CM (by decide) L_CM_12 ((hFj3.2 _ (SC_f (by omega))).trans e0) rfl ?_
      refine P_getfN (i := 1) d_CM_kinds_28 ok_Plane (by decide) L_CM_157 ((hFj3.2 _ (SC_f (by omega))).trans eb) rfl ?_
      refine P_iload_n d_CM_kinds_31 rfl ?_
      refine P_aald (j := j3) (q := b + 2 + 1 + j3) d_CM_kinds_32 (hIj3.ms hb) rfl (ix_nI (by omega)) (by omega) (rows_at (by omega)) ?_
      obtain ⟨f4, f4e⟩ := hIj3.row (r := b + 2 + 1 + j3) (by omega) (Kc_m hb (by omega))
      refine P_callS (M := M_CM_kinds) (pc := 33) (as := [.ref (b + 2 + 1 + j3)]) d_CM_kinds_33 co_Maps_kindOf L_CM_294 sm_Maps_kindOf (s_Maps_kindOf f4e) rfl ⟨by decide, by decide⟩ ⟨by decide, by decide⟩ (by exact le_b rfl) ?_ _ rfl
      rintro _ u ⟨⟨v5, rfl⟩, eu⟩
      subst u
      show PW _ _ _ _ _ _ (36, [(0, .ref 0), (1, .int (nI a1N)), (2, .int j3_2), (3, .int (nI j3))], [.int v5], uj3)
      refine P_iload_n d_CM_kinds_36 rfl ?_
      refine P_icmp_ne 43 d_CM_kinds_37 (by decide) (fun c6 => ?_) (fun c6 => ?_)
      · refine P_iinc (v := nI (j3 + 1)) d_CM_kinds_43 (by decide) rfl (nI_add j3 1) rfl ?_
        refine P_goto 13 d_CM_kinds_46 (by decide) ?_
        exact kkj3 (j3_2, uj3) ⟨hIj3, hFj3⟩
      · refine P_iinc (v := j3_2 + Int32.ofInt 1) d_CM_kinds_40 (by decide) rfl rfl rfl ?_
        show PW _ _ _ _ _ _ (43, [(0, .ref 0), (1, .int (nI a1N)), (2, .int (j3_2 + Int32.ofInt 1)), (3, .int (nI j3))], [], uj3)
        refine P_iinc (v := nI (j3 + 1)) d_CM_kinds_43 (by decide) rfl (nI_add j3 1) rfl ?_
        refine P_goto 13 d_CM_kinds_46 (by decide) ?_
        exact kkj3 (j3_2 + Int32.ofInt 1, uj3) ⟨hIj3, hFj3⟩
  · refine P_iconst (v := (-1)) d_CM_kinds_7 (by decide) ?_
    exact P_iret d_CM_kinds_8 rfl (le_b rfl) (le_b rfl) ⟨⟨_, rfl⟩, hI, Fr.rf⟩
theorem s_CM_pairs {G : pG} {w : pW} (hG : GO G) (hI : I w) (a1 : Int32) : PM G M_CM_pairs 6 0 0 [.ref 0, .int a1] w (fun r w' => (∃ v, r = some (.int v)) ∧ I w' ∧ Fr SC w w') := by
  refine PM_of pn_CM_pairs (le_b rfl) ?_
  show PW _ _ _ _ _ _ (0, [(0, .ref 0), (1, .int a1)], [], w)
  obtain ⟨b, hb, e0⟩ := hI.cm
  obtain ⟨hb1, hb2⟩ := pl_rng hb
  obtain ⟨lc, qc, mc, pc, eb, hlc, hqc, hmc, hpc⟩ := hI.pl hb
  refine P_iload_n d_CM_pairs_0 rfl ?_
  refine P_callS (M := M_CM_pairs) (pc := 1) (as := [.int a1]) d_CM_pairs_1 co_CM_isThird L_CM_154 sm_CM_isThird (s_CM_isThird a1) rfl ⟨by decide, by decide⟩ ⟨by decide, by decide⟩ (by exact le_b rfl) ?_ _ rfl
  rintro _ u ⟨rfl, eu⟩
  subst u
  show PW _ _ _ _ _ _ (4, [(0, .ref 0), (1, .int a1)], [.int (bi (inN 3 a1))], w)
  refine P_if_ne 9 d_CM_pairs_4 (by decide) (fun c2 => ?_) (fun c2 => ?_)
  · obtain ⟨a1N, ha1N, rfl⟩ := inN_of (bi_1 c2) (by omega)
    refine P_iconst (v := 0) d_CM_pairs_9 (by decide) ?_
    refine P_istore_n d_CM_pairs_10 (by decide) rfl ?_
    refine P_iconst (v := 0) d_CM_pairs_11 (by decide) ?_
    refine P_istore_n d_CM_pairs_12 (by decide) rfl ?_
    refine PW_ind (σ := Int32 × pW) (mc) (fun jj ss => I (ss.2) ∧ Fr SC w (ss.2)) (fun jj ss => (13, [(0, .ref 0), (1, .int (nI a1N)), (2, .int ss.1), (3, .int (nI jj))], [], ss.2)) ?_ ?_ 0 (0, w) (by omega) ⟨hI, Fr.rf⟩
    · rintro ⟨j3_2, uj3⟩ ⟨hIj3, hFj3⟩
      show PW _ _ _ _ _ _ (13, [(0, .ref 0), (1, .int (nI a1N)), (2, .int j3_2), (3, .int (nI mc))], [], uj3)
      refine P_iload_n d_CM_pairs_13 rfl ?_
      refine P_aload_n d_CM_pairs_14 rfl ?_
      refine P_getf (i := 0) d_CM_pairs_15 ok_CM (by decide) L_CM_12 ((hFj3.2 _ (SC_f (by omega))).trans e0) rfl ?_
      refine P_getfN (i := 5) d_CM_pairs_18 ok_Plane (by decide) L_CM_225 ((hFj3.2 _ (SC_f (by omega))).trans eb) rfl ?_
      refine P_icmp_ge 67 d_CM_pairs_21 (by decide) (fun _ => ?_) (fun h => absurd (Int32.le_refl _) h)
      refine P_iload_n d_CM_pairs_67 rfl ?_
      exact P_iret d_CM_pairs_68 rfl (le_b rfl) (le_b rfl) ⟨⟨_, rfl⟩, hIj3, hFj3⟩
    · rintro j3 ⟨j3_2, uj3⟩ hj3 ⟨hIj3, hFj3⟩ kkj3
      show PW _ _ _ _ _ _ (13, [(0, .ref 0), (1, .int (nI a1N)), (2, .int j3_2), (3, .int (nI j3))], [], uj3)
      refine P_iload_n d_CM_pairs_13 rfl ?_
      refine P_aload_n d_CM_pairs_14 rfl ?_
      refine P_getf (i := 0) d_CM_pairs_15 ok_CM (by decide) L_CM_12 ((hFj3.2 _ (SC_f (by omega))).trans e0) rfl ?_
      refine P_getfN (i := 5) d_CM_pairs_18 ok_Plane (by decide) L_CM_225 ((hFj3.2 _ (SC_f (by omega))).trans eb) rfl ?_
      refine P_icmp_ge 67 d_CM_pairs_21 (by decide) (fun h => absurd h (nI_geF (a := j3) (b := mc) (by omega) (by omega))) (fun _ => ?_)
      refine P_iload_n d_CM_pairs_24 rfl ?_
      refine P_iconst (v := 1) d_CM_pairs_25 (by decide) ?_
      refine P_iaddN (a := j3) (b := 1) d_CM_pairs_26 ?_
      show PW _ _ _ _ _ _ (27, [(0, .ref 0), (1, .int (nI a1N)), (2, .int j3_2), (3, .int (nI j3))], [.int (nI (j3 + 1))], uj3)
      refine P_istore d_CM_pairs_27 (by decide) rfl ?_
      refine PW_ind (σ := Int32 × pW) (mc) (fun jj ss => I (ss.2) ∧ Fr SC w (ss.2)) (fun jj ss => (29, [(0, .ref 0), (1, .int (nI a1N)), (2, .int ss.1), (3, .int (nI j3)), (4, .int (nI jj))], [], ss.2)) ?_ ?_ (j3 + 1) (j3_2, uj3) (by omega) ⟨hIj3, hFj3⟩
      · rintro ⟨j4_2, uj4⟩ ⟨hIj4, hFj4⟩
        show PW _ _ _ _ _ _ (29, [(0, .ref 0), (1, .int (nI a1N)), (2, .int j4_2), (3, .int (nI j3)), (4, .int (nI mc))], [], uj4)
        refine P_iload d_CM_pairs_29 rfl ?_
        refine P_aload_n d_CM_pairs_31 rfl ?_
        refine P_getf (i := 0) d_CM_pairs_32 ok_CM (by decide) L_CM_12 ((hFj4.2 _ (SC_f (by omega))).trans e0) rfl ?_
        refine P_getfN (i := 5) d_CM_pairs_35 ok_Plane (by decide) L_CM_225 ((hFj4.2 _ (SC_f (by omega))).trans eb) rfl ?_
        refine P_icmp_ge 61 d_CM_pairs_38 (by decide) (fun _ => ?_) (fun h => absurd (Int32.le_refl _) h)
        refine P_iinc (v := nI (j3 + 1)) d_CM_pairs_61 (by decide) rfl (nI_add j3 1) rfl ?_
        refine P_goto 13 d_CM_pairs_64 (by decide) ?_
        show PW _ _ _ _ _ _ (13, [(0, .ref 0), (1, .int (nI a1N)), (2, .int j4_2), (3, .int (nI (j3 + 1))), (4, .int (nI mc))], [], uj4)
        refine PW.drop (lv' := [(0, .ref 0), (1, .int (nI a1N)), (2, .int j4_2), (3, .int (nI (j3 + 1)))]) (by simp) ?_
        exact kkj3 (j4_2, uj4) ⟨hIj4, hFj4⟩
      · rintro j4 ⟨j4_2, uj4⟩ hj4 ⟨hIj4, hFj4⟩ kkj4
        show PW _ _ _ _ _ _ (29, [(0, .ref 0), (1, .int (nI a1N)), (2, .int j4_2), (3, .int (nI j3)), (4, .int (nI j4))], [], uj4)
        refine P_iload d_CM_pairs_29 rfl ?_
        refine P_aload_n d_CM_pairs_31 rfl ?_
        refine P_getf (i := 0) d_CM_pairs_32 ok_CM (by decide) L_CM_12 ((hFj4.2 _ (SC_f (by omega))).trans e0) rfl ?_
        refine P_getfN (i := 5) d_CM_pairs_35 ok_Plane (by decide) L_CM_225 ((hFj4.2 _ (SC_f (by omega))).trans eb) rfl ?_
        refine P_icmp_ge 61 d_CM_pairs_38 (by decide) (fun h => absurd h (nI_geF (a := j4) (b := mc) (by omega) (by omega))) (fun _ => ?_)
        refine P_aload_n d_CM_pairs_41 rfl ?_
        refine P_iload_n d_CM_pairs_42 rfl ?_
        refine P_iload d_CM_pairs_43 rfl ?_
        refine P_iload_n d_CM_pairs_45 rfl ?_
        refine P_callV (M := M_CM_pairs) (pc := 46) (as := [.int (nI j3), .int (nI j4), .int (nI a1N)]) (b := 0) d_CM_pairs_46 co_CM_isPairOf ok_CM ((hFj4.2 _ (SC_f (by omega))).trans e0) L_CM_424 im_CM_isPairOf se_CM_isPairOf (s_CM_isPairOf hG hIj4 j3 (by omega) j4 (by omega) (nI a1N)) rfl ⟨by decide, by decide⟩ ⟨by decide, by decide⟩ (by exact le_b rfl) ?_ _ rfl
        rintro _ w5 ⟨⟨v5, rfl⟩, hI5, hG5⟩
        have hF5 : Fr SC w w5 := Fr.tr hFj4 hG5
        show PW _ _ _ _ _ _ (49, [(0, .ref 0), (1, .int (nI a1N)), (2, .int j4_2), (3, .int (nI j3)), (4, .int (nI j4))], [.int (bi v5)], w5)
        refine P_if_eq 55 d_CM_pairs_49 (by decide) (fun c6 => ?_) (fun c6 => ?_)
        · refine P_iinc (v := nI (j4 + 1)) d_CM_pairs_55 (by decide) rfl (nI_add j4 1) rfl ?_
          refine P_goto 29 d_CM_pairs_58 (by decide) ?_
          exact kkj4 (j4_2, w5) ⟨hI5, hF5⟩
        · refine P_iinc (v := j4_2 + Int32.ofInt 1) d_CM_pairs_52 (by decide) rfl rfl rfl ?_
          show PW _ _ _ _ _ _ (55, [(0, .ref 0), (1, .int (nI a1N)), (2, .int (j4_2 + Int32.ofInt 1)), (3, .int (nI j3)), (4, .int (nI j4))], [], w5)
          refine P_iinc (v := nI (j4 + 1)) d_CM_pairs_55 (by decide) rfl (nI_add j4 1) rfl ?_
          refine P_goto 29 d_CM_pairs_58 (by decide) ?_
          exact kkj4 (j4_2 + Int32.ofInt 1, w5) ⟨hI5, hF5⟩
  · refine P_iconst (v := (-1)) d_CM_pairs_7 (by decide) ?_
    exact P_iret d_CM_pairs_8 rfl (le_b rfl) (le_b rfl) ⟨⟨_, rfl⟩, hI, Fr.rf⟩
theorem s_CM_kept {G : pG} {w : pW} (hG : GO G) (hI : I w) (a1 : Int32) : PM G M_CM_kept 2 0 0 [.ref 0, .int a1] w (fun r w' => (∃ v, r = some (.int v)) ∧ I w' ∧ Fr SC w w') := by
  refine PM_of pn_CM_kept (le_b rfl) ?_
  show PW _ _ _ _ _ _ (0, [(0, .ref 0), (1, .int a1)], [], w)
  obtain ⟨b, hb, e0⟩ := hI.cm
  obtain ⟨hb1, hb2⟩ := pl_rng hb
  obtain ⟨lc, qc, mc, pc, eb, hlc, hqc, hmc, hpc⟩ := hI.pl hb
  refine P_aload_n d_CM_kept_0 rfl ?_
  refine P_getf (i := 0) d_CM_kept_1 ok_CM (by decide) L_CM_12 e0 rfl ?_
  refine P_iload_n d_CM_kept_4 rfl ?_
  refine P_callV (M := M_CM_kept) (pc := 5) (as := [.int a1]) (b := b) d_CM_kept_5 co_Plane_hasMap ok_Plane eb L_CM_151 im_Plane_hasMap se_Plane_hasMap (s_Plane_hasMap eb hlc hqc hmc hpc a1) rfl ⟨by decide, by decide⟩ ⟨by decide, by decide⟩ (by exact le_b rfl) ?_ _ rfl
  rintro _ u ⟨rfl, eu⟩
  subst u
  show PW _ _ _ _ _ _ (8, [(0, .ref 0), (1, .int a1)], [.int (bi (inN mc a1))], w)
  refine P_if_ne 13 d_CM_kept_8 (by decide) (fun c2 => ?_) (fun c2 => ?_)
  · obtain ⟨a1N, ha1N, rfl⟩ := inN_of (bi_1 c2) (by omega)
    refine P_iconst (v := 0) d_CM_kept_13 (by decide) ?_
    refine P_istore_n d_CM_kept_14 (by decide) rfl ?_
    refine P_iconst (v := 0) d_CM_kept_15 (by decide) ?_
    refine P_istore_n d_CM_kept_16 (by decide) rfl ?_
    refine PW_ind (σ := Int32 × pW) (qc) (fun jj ss => I (ss.2) ∧ Fr SC w (ss.2)) (fun jj ss => (17, [(0, .ref 0), (1, .int (nI a1N)), (2, .int ss.1), (3, .int (nI jj))], [], ss.2)) ?_ ?_ 0 (0, w) (by omega) ⟨hI, Fr.rf⟩
    · rintro ⟨j3_2, uj3⟩ ⟨hIj3, hFj3⟩
      show PW _ _ _ _ _ _ (17, [(0, .ref 0), (1, .int (nI a1N)), (2, .int j3_2), (3, .int (nI qc))], [], uj3)
      refine P_iload_n d_CM_kept_17 rfl ?_
      refine P_aload_n d_CM_kept_18 rfl ?_
      refine P_getf (i := 0) d_CM_kept_19 ok_CM (by decide) L_CM_12 ((hFj3.2 _ (SC_f (by omega))).trans e0) rfl ?_
      refine P_getfN (i := 4) d_CM_kept_22 ok_Plane (by decide) L_CM_415 ((hFj3.2 _ (SC_f (by omega))).trans eb) rfl ?_
      refine P_icmp_ge 49 d_CM_kept_25 (by decide) (fun _ => ?_) (fun h => absurd (Int32.le_refl _) h)
      refine P_iload_n d_CM_kept_49 rfl ?_
      exact P_iret d_CM_kept_50 rfl (le_b rfl) (le_b rfl) ⟨⟨_, rfl⟩, hIj3, hFj3⟩
    · rintro j3 ⟨j3_2, uj3⟩ hj3 ⟨hIj3, hFj3⟩ kkj3
      show PW _ _ _ _ _ _ (17, [(0, .ref 0), (1, .int (nI a1N)), (2, .int j3_2), (3, .int (nI j3))], [], uj3)
      refine P_iload_n d_CM_kept_17 rfl ?_
      refine P_aload_n d_CM_kept_18 rfl ?_
      refine P_getf (i := 0) d_CM_kept_19 ok_CM (by decide) L_CM_12 ((hFj3.2 _ (SC_f (by omega))).trans e0) rfl ?_
      refine P_getfN (i := 4) d_CM_kept_22 ok_Plane (by decide) L_CM_415 ((hFj3.2 _ (SC_f (by omega))).trans eb) rfl ?_
      refine P_icmp_ge 49 d_CM_kept_25 (by decide) (fun h => absurd h (nI_geF (a := j3) (b := qc) (by omega) (by omega))) (fun _ => ?_)
      refine P_aload_n d_CM_kept_28 rfl ?_
      refine P_iload_n d_CM_kept_29 rfl ?_
      refine P_iload_n d_CM_kept_30 rfl ?_
      refine P_callV (M := M_CM_kept) (pc := 31) (as := [.int (nI a1N), .int (nI j3)]) (b := 0) d_CM_kept_31 co_CM_keepsCorners ok_CM ((hFj3.2 _ (SC_f (by omega))).trans e0) L_CM_379 im_CM_keepsCorners se_CM_keepsCorners (s_CM_keepsCorners hG hIj3 a1N (by omega) j3 (by omega)) rfl ⟨by decide, by decide⟩ ⟨by decide, by decide⟩ (by exact le_b rfl) ?_ _ rfl
      rintro _ w4 ⟨⟨v4, rfl⟩, hI4, hG4⟩
      have hF4 : Fr SC w w4 := Fr.tr hFj3 hG4
      show PW _ _ _ _ _ _ (34, [(0, .ref 0), (1, .int (nI a1N)), (2, .int j3_2), (3, .int (nI j3))], [.int (bi v4)], w4)
      refine P_if_eq 43 d_CM_kept_34 (by decide) (fun c5 => ?_) (fun c5 => ?_)
      · refine P_iinc (v := nI (j3 + 1)) d_CM_kept_43 (by decide) rfl (nI_add j3 1) rfl ?_
        refine P_goto 17 d_CM_kept_46 (by decide) ?_
        exact kkj3 (j3_2, w4) ⟨hI4, hF4⟩
      · refine P_iload_n d_CM_kept_37 rfl ?_
        refine P_iconst (v := 1) d_CM_kept_38 (by decide) ?_
        refine P_iload_n d_CM_kept_39 rfl ?_
        refine P_ishl d_CM_kept_40 ?_
        generalize (1 : Int32) <<< ((nI j3) &&& 31) = zz6
        show PW _ _ _ _ _ _ (41, [(0, .ref 0), (1, .int (nI a1N)), (2, .int j3_2), (3, .int (nI j3))], [.int zz6, .int j3_2], w4)
        refine P_ior d_CM_kept_41 ?_
        generalize j3_2 ||| zz6 = zz7
        show PW _ _ _ _ _ _ (42, [(0, .ref 0), (1, .int (nI a1N)), (2, .int j3_2), (3, .int (nI j3))], [.int zz7], w4)
        refine P_istore_n d_CM_kept_42 (by decide) rfl ?_
        refine P_iinc (v := nI (j3 + 1)) d_CM_kept_43 (by decide) rfl (nI_add j3 1) rfl ?_
        refine P_goto 17 d_CM_kept_46 (by decide) ?_
        exact kkj3 (zz7, w4) ⟨hI4, hF4⟩
  · refine P_iconst (v := (-1)) d_CM_kept_11 (by decide) ?_
    exact P_iret d_CM_kept_12 rfl (le_b rfl) (le_b rfl) ⟨⟨_, rfl⟩, hI, Fr.rf⟩
theorem s_CM_find {G : pG} {w : pW} (hG : GO G) (hI : I w) (a1 : Int32) (a2 : Int32) : PM G M_CM_find 5 0 0 [.ref 0, .int a1, .int a2] w (fun r w' => (∃ v, r = some (.int v)) ∧ I w' ∧ Fr SC w w') := by
  refine PM_of pn_CM_find (le_b rfl) ?_
  show PW _ _ _ _ _ _ (0, [(0, .ref 0), (1, .int a1), (2, .int a2)], [], w)
  obtain ⟨b, hb, e0⟩ := hI.cm
  obtain ⟨hb1, hb2⟩ := pl_rng hb
  obtain ⟨lc, qc, mc, pc, eb, hlc, hqc, hmc, hpc⟩ := hI.pl hb
  refine P_aload_n d_CM_find_0 rfl ?_
  refine P_getf (i := 0) d_CM_find_1 ok_CM (by decide) L_CM_12 e0 rfl ?_
  refine P_iload_n d_CM_find_4 rfl ?_
  refine P_callV (M := M_CM_find) (pc := 5) (as := [.int a1]) (b := b) d_CM_find_5 co_Plane_hasQuad ok_Plane eb L_CM_127 im_Plane_hasQuad se_Plane_hasQuad (s_Plane_hasQuad eb hlc hqc hmc hpc a1) rfl ⟨by decide, by decide⟩ ⟨by decide, by decide⟩ (by exact le_b rfl) ?_ _ rfl
  rintro _ u ⟨rfl, eu⟩
  subst u
  show PW _ _ _ _ _ _ (8, [(0, .ref 0), (1, .int a1), (2, .int a2)], [.int (bi (inN qc a1))], w)
  refine P_if_eq 22 d_CM_find_8 (by decide) (fun c2 => ?_) (fun c2 => ?_)
  · refine P_iconst (v := (-1)) d_CM_find_22 (by decide) ?_
    exact P_iret d_CM_find_23 rfl (le_b rfl) (le_b rfl) ⟨⟨_, rfl⟩, hI, Fr.rf⟩
  · obtain ⟨a1N, ha1N, rfl⟩ := inN_of (bi_1 c2) (by omega)
    refine P_aload_n d_CM_find_11 rfl ?_
    refine P_getf (i := 0) d_CM_find_12 ok_CM (by decide) L_CM_12 e0 rfl ?_
    refine P_iload_n d_CM_find_15 rfl ?_
    refine P_callV (M := M_CM_find) (pc := 16) (as := [.int a2]) (b := b) d_CM_find_16 co_Plane_hasQuad ok_Plane eb L_CM_127 im_Plane_hasQuad se_Plane_hasQuad (s_Plane_hasQuad eb hlc hqc hmc hpc a2) rfl ⟨by decide, by decide⟩ ⟨by decide, by decide⟩ (by exact le_b rfl) ?_ _ rfl
    rintro _ u ⟨rfl, eu⟩
    subst u
    show PW _ _ _ _ _ _ (19, [(0, .ref 0), (1, .int (nI a1N)), (2, .int a2)], [.int (bi (inN qc a2))], w)
    refine P_if_ne 24 d_CM_find_19 (by decide) (fun c4 => ?_) (fun c4 => ?_)
    · obtain ⟨a2N, ha2N, rfl⟩ := inN_of (bi_1 c4) (by omega)
      refine P_aload_n d_CM_find_24 rfl ?_
      refine P_getf (i := 5) d_CM_find_25 ok_CM (by decide) L_CM_31 e0 rfl ?_
      refine P_aload_n d_CM_find_28 rfl ?_
      refine P_getf (i := 0) d_CM_find_29 ok_CM (by decide) L_CM_12 e0 rfl ?_
      refine P_getfN (i := 0) d_CM_find_32 ok_Plane (by decide) L_CM_142 eb rfl ?_
      refine P_iload_n d_CM_find_35 rfl ?_
      refine P_aald (j := a1N) (q := b + 1 + 27 + 6 * a1N) d_CM_find_36 (hI.qs hb) rfl (ix_nI (by omega)) (by omega) (pq_at (by omega)) ?_
      refine P_aload_n d_CM_find_37 rfl ?_
      refine P_getf (i := 0) d_CM_find_38 ok_CM (by decide) L_CM_12 e0 rfl ?_
      refine P_getfN (i := 0) d_CM_find_41 ok_Plane (by decide) L_CM_142 eb rfl ?_
      refine P_iload_n d_CM_find_44 rfl ?_
      refine P_aald (j := a2N) (q := b + 1 + 27 + 6 * a2N) d_CM_find_45 (hI.qs hb) rfl (ix_nI (by omega)) (by omega) (pq_at (by omega)) ?_
      refine P_iconst (v := 0) d_CM_find_46 (by decide) ?_
      refine P_aload_n d_CM_find_47 rfl ?_
      refine P_getf (i := 8) d_CM_find_48 ok_CM (by decide) L_CM_65 e0 rfl ?_
      refine P_callV (M := M_CM_find) (pc := 51) (as := [.ref (b + 1 + 27 + 6 * a1N), .ref (b + 1 + 27 + 6 * a2N), .int 0, .ref 449]) (b := 155) d_CM_find_51 co_Maker_between ok_Maker (hI.mk) L_CM_184 im_Maker_between se_Maker_between (s_Maker_between hG hI (QX_pl hb (q := a1N) (by omega)) (QX_pl hb (q := a2N) (by omega)) 0 (by decide) (by decide) kc_449 (by omega) (by omega)) rfl ⟨by decide, by decide⟩ ⟨by decide, by decide⟩ (by exact le_b rfl) ?_ _ rfl
      rintro _ w5 ⟨rfl, hI5, hG5⟩
      have hF5 : Fr SC w w5 := Fr.tr Fr.rf hG5
      show PW _ _ _ _ _ _ (54, [(0, .ref 0), (1, .int (nI a1N)), (2, .int (nI a2N))], [], w5)
      refine P_iconst (v := 0) d_CM_find_54 (by decide) ?_
      refine P_istore_n d_CM_find_55 (by decide) rfl ?_
      refine PW_ind (σ := pW) (mc) (fun jj ss => I (ss) ∧ Fr SC w (ss)) (fun jj ss => (56, [(0, .ref 0), (1, .int (nI a1N)), (2, .int (nI a2N)), (3, .int (nI jj))], [], ss)) ?_ ?_ 0 (w5) (by omega) ⟨hI5, hF5⟩
      · rintro uj6 ⟨hIj6, hFj6⟩
        show PW _ _ _ _ _ _ (56, [(0, .ref 0), (1, .int (nI a1N)), (2, .int (nI a2N)), (3, .int (nI mc))], [], uj6)
        refine P_iload_n d_CM_find_56 rfl ?_
        refine P_aload_n d_CM_find_57 rfl ?_
        refine P_getf (i := 0) d_CM_find_58 ok_CM (by decide) L_CM_12 ((hFj6.2 _ (SC_f (by omega))).trans e0) rfl ?_
        refine P_getfN (i := 5) d_CM_find_61 ok_Plane (by decide) L_CM_225 ((hFj6.2 _ (SC_f (by omega))).trans eb) rfl ?_
        refine P_icmp_ge 94 d_CM_find_64 (by decide) (fun _ => ?_) (fun h => absurd (Int32.le_refl _) h)
        refine P_bipush (v := (-2)) d_CM_find_94 (by decide) ?_
        exact P_iret d_CM_find_96 rfl (le_b rfl) (le_b rfl) ⟨⟨_, rfl⟩, hIj6, hFj6⟩
      · rintro j6 uj6 hj6 ⟨hIj6, hFj6⟩ kkj6
        show PW _ _ _ _ _ _ (56, [(0, .ref 0), (1, .int (nI a1N)), (2, .int (nI a2N)), (3, .int (nI j6))], [], uj6)
        refine P_iload_n d_CM_find_56 rfl ?_
        refine P_aload_n d_CM_find_57 rfl ?_
        refine P_getf (i := 0) d_CM_find_58 ok_CM (by decide) L_CM_12 ((hFj6.2 _ (SC_f (by omega))).trans e0) rfl ?_
        refine P_getfN (i := 5) d_CM_find_61 ok_Plane (by decide) L_CM_225 ((hFj6.2 _ (SC_f (by omega))).trans eb) rfl ?_
        refine P_icmp_ge 94 d_CM_find_64 (by decide) (fun h => absurd h (nI_geF (a := j6) (b := mc) (by omega) (by omega))) (fun _ => ?_)
        refine P_aload_n d_CM_find_67 rfl ?_
        refine P_getf (i := 0) d_CM_find_68 ok_CM (by decide) L_CM_12 ((hFj6.2 _ (SC_f (by omega))).trans e0) rfl ?_
        refine P_getfN (i := 1) d_CM_find_71 ok_Plane (by decide) L_CM_157 ((hFj6.2 _ (SC_f (by omega))).trans eb) rfl ?_
        refine P_iload_n d_CM_find_74 rfl ?_
        refine P_aald (j := j6) (q := b + 2 + 1 + j6) d_CM_find_75 (hIj6.ms hb) rfl (ix_nI (by omega)) (by omega) (rows_at (by omega)) ?_
        refine P_aload_n d_CM_find_76 rfl ?_
        refine P_getf (i := 8) d_CM_find_77 ok_CM (by decide) L_CM_65 ((hFj6.2 _ (SC_f (by omega))).trans e0) rfl ?_
        obtain ⟨f7, f7e⟩ := hIj6.row (r := b + 2 + 1 + j6) (by omega) (Kc_m hb (by omega))
        obtain ⟨f8, f8e⟩ := hIj6.row (r := 449) (by decide) kc_449
        refine P_callS (M := M_CM_find) (pc := 80) (as := [.ref (b + 2 + 1 + j6), .ref 449]) d_CM_find_80 co_Rows_alike L_CM_306 sm_Rows_alike (s_Rows_alike (by decide) (by decide) f7e f8e) rfl ⟨by decide, by decide⟩ ⟨by decide, by decide⟩ (by exact le_b rfl) ?_ _ rfl
        rintro _ u ⟨⟨v9, rfl⟩, eu⟩
        subst u
        show PW _ _ _ _ _ _ (83, [(0, .ref 0), (1, .int (nI a1N)), (2, .int (nI a2N)), (3, .int (nI j6))], [.int (bi v9)], uj6)
        refine P_if_eq 88 d_CM_find_83 (by decide) (fun c10 => ?_) (fun c10 => ?_)
        · refine P_iinc (v := nI (j6 + 1)) d_CM_find_88 (by decide) rfl (nI_add j6 1) rfl ?_
          refine P_goto 56 d_CM_find_91 (by decide) ?_
          exact kkj6 (uj6) ⟨hIj6, hFj6⟩
        · refine P_iload_n d_CM_find_86 rfl ?_
          exact P_iret d_CM_find_87 rfl (le_b rfl) (le_b rfl) ⟨⟨_, rfl⟩, hIj6, hFj6⟩
    · refine P_iconst (v := (-1)) d_CM_find_22 (by decide) ?_
      exact P_iret d_CM_find_23 rfl (le_b rfl) (le_b rfl) ⟨⟨_, rfl⟩, hI, Fr.rf⟩
theorem s_CM_size {G : pG} {w : pW} (hG : GO G) (hI : I w) (a1 : Int32) : PM G M_CM_size 2 0 0 [.ref 0, .int a1] w (fun r w' => (∃ v, r = some (.int v)) ∧ I w' ∧ Fr SC w w') := by
  refine PM_of pn_CM_size (le_b rfl) ?_
  show PW _ _ _ _ _ _ (0, [(0, .ref 0), (1, .int a1)], [], w)
  obtain ⟨b, hb, e0⟩ := hI.cm
  obtain ⟨hb1, hb2⟩ := pl_rng hb
  obtain ⟨lc, qc, mc, pc, eb, hlc, hqc, hmc, hpc⟩ := hI.pl hb
  refine P_aload_n d_CM_size_0 rfl ?_
  refine P_getf (i := 0) d_CM_size_1 ok_CM (by decide) L_CM_12 e0 rfl ?_
  refine P_iload_n d_CM_size_4 rfl ?_
  refine P_callV (M := M_CM_size) (pc := 5) (as := [.int a1]) (b := b) d_CM_size_5 co_Plane_hasMap ok_Plane eb L_CM_151 im_Plane_hasMap se_Plane_hasMap (s_Plane_hasMap eb hlc hqc hmc hpc a1) rfl ⟨by decide, by decide⟩ ⟨by decide, by decide⟩ (by exact le_b rfl) ?_ _ rfl
  rintro _ u ⟨rfl, eu⟩
  subst u
  show PW _ _ _ _ _ _ (8, [(0, .ref 0), (1, .int a1)], [.int (bi (inN mc a1))], w)
  refine P_if_eq 27 d_CM_size_8 (by decide) (fun c2 => ?_) (fun c2 => ?_)
  · refine P_iconst (v := (-1)) d_CM_size_27 (by decide) ?_
    exact P_iret d_CM_size_28 rfl (le_b rfl) (le_b rfl) ⟨⟨_, rfl⟩, hI, Fr.rf⟩
  · obtain ⟨a1N, ha1N, rfl⟩ := inN_of (bi_1 c2) (by omega)
    refine P_aload_n d_CM_size_11 rfl ?_
    refine P_getf (i := 0) d_CM_size_12 ok_CM (by decide) L_CM_12 e0 rfl ?_
    refine P_getfN (i := 1) d_CM_size_15 ok_Plane (by decide) L_CM_157 eb rfl ?_
    refine P_iload_n d_CM_size_18 rfl ?_
    refine P_aald (j := a1N) (q := b + 2 + 1 + a1N) d_CM_size_19 (hI.ms hb) rfl (ix_nI (by omega)) (by omega) (rows_at (by omega)) ?_
    obtain ⟨f3, f3e⟩ := hI.row (r := b + 2 + 1 + a1N) (by omega) (Kc_m hb (by omega))
    refine P_callS (M := M_CM_size) (pc := 20) (as := [.ref (b + 2 + 1 + a1N)]) d_CM_size_20 co_Rows_greatest L_CM_297 sm_Rows_greatest (s_Rows_greatest (by decide) (by decide) f3e) rfl ⟨by decide, by decide⟩ ⟨by decide, by decide⟩ (by exact le_b rfl) ?_ _ rfl
    rintro _ u ⟨⟨v4, rfl⟩, eu⟩
    subst u
    show PW _ _ _ _ _ _ (23, [(0, .ref 0), (1, .int (nI a1N))], [.long v4], w)
    refine P_l2i d_CM_size_23 ?_
    refine P_goto 28 d_CM_size_24 (by decide) ?_
    exact P_iret d_CM_size_28 rfl (le_b rfl) (le_b rfl) ⟨⟨_, rfl⟩, hI, Fr.rf⟩
